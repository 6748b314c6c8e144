/** Grids for the tests, and where their switches are as the document says it, told apart from the class. */
final class Grids {
    static final int EAST = 0;
    static final int SOUTH = 1;
    static final int WEST = 2;
    static final int NORTH = 3;
    static final int OWN = 4;
    static final int NONE = -1;

    private static final int[] RIGHT = {1, 0, -1, 0};
    private static final int[] DOWN = {0, 1, 0, -1};

    private Grids() {
    }

    static Creditfabric grid(int columns, int rows, int room, int delay) {
        Creditfabric x = new Creditfabric();
        Checks.due("begin", columns * rows, x.begin(columns, rows, room, delay));
        return x;
    }

    /** The switch behind the link that goes from a switch in a direction; NONE if there is no such link. */
    static int behind(int columns, int rows, int its, int direction) {
        if (direction < 0 || direction > 3) {
            return NONE;
        }
        int column = its % columns + RIGHT[direction];
        int row = its / columns + DOWN[direction];
        return column < 0 || column >= columns || row < 0 || row >= rows ? NONE : row * columns + column;
    }

    /** The switch ahead of the link that comes to a switch in a direction; NONE if there is no such link. */
    static int ahead(int columns, int rows, int its, int direction) {
        return behind(columns, rows, its, (direction + 2) % 4);
    }

    /** Puts packets into an own input, a tick apart; the gap must be 1 and nothing may go meanwhile. */
    static void sendInARow(Creditfabric x, int count, int source, int goal, int lane) {
        for (int i = 0; i < count; i++) {
            x.send(source, goal, lane, 0);
            x.run(1);
        }
    }
}
