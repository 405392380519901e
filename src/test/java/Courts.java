/** Courts for the tests, and all that a court answers. */
final class Courts {
    private Courts() {
    }

    /** A court with these ROWS, told by their THROWS. */
    static Cascadecourt with(String... rows) {
        Cascadecourt court = new Cascadecourt();
        for (String row : rows) {
            court.tell(Integer.parseInt(row), row.length());
        }
        return court;
    }

    /** A court with eight times that ROW. */
    static Cascadecourt withEight(String row) {
        return with(row, row, row, row, row, row, row, row);
    }

    /** A court without ROWS, whose juggler has taken so many props and thrown these by hand. */
    static Cascadecourt thrown(int props, int... heights) {
        Cascadecourt court = new Cascadecourt();
        court.take(props);
        tossAll(court, heights);
        return court;
    }

    static void tossAll(Cascadecourt court, int... heights) {
        for (int height : heights) {
            court.toss(height);
        }
    }

    /** Every answer that the court gives about what it is now: two courts that are alike in it are alike in all. */
    static String all(Cascadecourt court) {
        StringBuilder all = new StringBuilder("many");
        for (int what = 0; what <= 9; what++) {
            all.append(' ').append(court.many(what));
        }
        for (int row = 0; row < court.many(0); row++) {
            addRow(all, court, row);
        }
        for (int prop = 0; prop < court.many(1); prop++) {
            all.append("; prop");
            for (int what = 0; what <= 3; what++) {
                all.append(' ').append(court.ofProp(prop, what));
            }
        }
        all.append("; would");
        for (int height = 0; height <= 9; height++) {
            all.append(' ').append(court.would(height));
        }
        return all.append("; tired ").append(court.tired()).append("; digest ").append(court.digest()).toString();
    }

    private static void addRow(StringBuilder all, Cascadecourt court, int row) {
        all.append("; row ").append(court.text(row));
        for (int what = 0; what <= 9; what++) {
            all.append(' ').append(court.ofRow(row, what));
        }
        for (int site = 0; site < court.ofRow(row, 0); site++) {
            for (int what = 0; what <= 4; what++) {
                all.append(' ').append(court.ofSite(row, site, what));
            }
        }
        all.append(' ').append(court.high(row)).append(' ').append(court.way(row)).append(' ').append(court.first(row));
    }
}
