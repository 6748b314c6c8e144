/** All that a fabric answers, as one text, so that two moments of an object, or two objects, can be compared. */
final class Questions {
    private Questions() {
    }

    static String all(Creditfabric x, int columns, int rows) {
        return ofTheGrid(x, columns, rows) + ofThePackets(x);
    }

    static String ofTheGrid(Creditfabric x, int columns, int rows) {
        StringBuilder told = new StringBuilder();
        told.append("tick ").append(x.tick()).append(" packets ").append(x.packets());
        told.append(" arrived ").append(x.arrived()).append(" circle ").append(x.circle());
        told.append(" mayCircle ").append(x.mayCircle());
        for (int its = 0; its < columns * rows; its++) {
            told.append("\nswitch ").append(its).append(" gap ").append(x.gap(its));
            for (int lane = 0; lane < 2; lane++) {
                for (int input = 0; input < 5; input++) {
                    told.append(' ').append(x.inBuffer(its, input, lane));
                }
                told.append(" credits");
                for (int direction = 0; direction < 4; direction++) {
                    boolean isLink = Grids.behind(columns, rows, its, direction) != Grids.NONE;
                    told.append(' ').append(isLink ? "" + x.credits(its, direction, lane) : "-");
                }
            }
        }
        return told.append('\n').toString();
    }

    static String ofThePackets(Creditfabric x) {
        StringBuilder told = new StringBuilder();
        int count = x.packets();
        for (int packet = 0; packet < count; packet++) {
            told.append("packet ").append(packet).append(": ").append(x.placeOf(packet)).append(' ');
            told.append(x.hops(packet)).append(' ').append(x.isMarked(packet)).append(' ');
            told.append(x.wants(packet)).append('\n');
        }
        return told.toString();
    }
}
