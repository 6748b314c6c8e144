/**
 * The sentences of the document that name the range of what is given: each on its ends, one beside them and far away,
 * and what is answered there. What a refused call leaves as it was is in RefusedCallsTest.
 */
public final class RangesTest {
    private static final int FARTHEST_DOWN = Integer.MIN_VALUE;
    private static final int FARTHEST_UP = Integer.MAX_VALUE;

    private RangesTest() {
    }

    public static void main(String[] args) {
        newGrid();
        columnsRowsRoomAndDelay();
        howManySwitches();
        withoutPacketsAtTickZero();
        nothingIsLeftOfTheGridBefore();
        numbersOfSwitches();
        linksToNeighbours();
        linksLeadToNeighbours();
        switchesOfSend();
        sourceAndGoal();
        laneOfSend();
        modeOfSend();
        ticksOfRun();
        switchesOfPause();
        linksOfLose();
        laneOfLose();
        laneOfCredits();
        inputOfInBuffer();
        laneOfInBuffer();
        zeroWithoutALink();
        switchesOfGap();
        numbersOfPackets();
        noneWhenOut();
        hopsFromZeroOn();
        everyOutputIsWanted();
        turnsWhereTheGoalIs();
        ticksAreCounted();
        fiveHundredAndTwelveCalls();
        Checks.finish();
    }

    /** The ends of a range, one beside each, and the farthest. */
    private static int[] around(int least, int most) {
        return new int[] {FARTHEST_DOWN, least - 1, least, most, most + 1, FARTHEST_UP};
    }

    private static boolean isIn(int least, int number, int most) {
        return least <= number && number <= most;
    }

    // ---- promises 1 and 2, and the grid of the terms

    private static void newGrid() {
        Checks.sentence("A grid of 2 columns and 2 rows, with room for 1 packet and a delay of 0.");
        Creditfabric x = new Creditfabric();
        Creditfabric begun = Grids.grid(2, 2, 1, 0);
        Checks.due("a new object", Questions.all(begun, 2, 2), Questions.all(x, 2, 2));
        Checks.due("the last switch", 1, x.gap(3));
        Checks.index("one switch more", () -> x.gap(4));
        Checks.due("room for 1", 0, x.send(0, 3, 1, 0));
        x.pause(1, true);
        x.run(1);
        Checks.state("no room for 2", () -> x.send(0, 3, 1, 0));
        x.pause(1, false);
        x.run(2);
        Checks.due("delay 0: not before the tick", 0, x.credits(0, 0, 1));
        x.run(1);
        Checks.due("delay 0: in the next tick", 1, x.credits(0, 0, 1));
    }

    private static void columnsRowsRoomAndDelay() {
        Checks.sentence("columns: 2 to 4; rows: 2 to 4; room: 1 to 3; delay: 0 to 3");
        for (int columns : around(2, 4)) {
            for (int rows : around(2, 4)) {
                for (int room : around(1, 3)) {
                    for (int delay : around(0, 3)) {
                        beginWith(columns, rows, room, delay);
                    }
                }
            }
        }
        for (int room = 1; room <= 3; room++) {
            for (int delay = 0; delay <= 3; delay++) {
                beginWith(3, 3, room, delay);
            }
        }
    }

    private static void beginWith(int columns, int rows, int room, int delay) {
        String call = "begin(" + columns + ", " + rows + ", " + room + ", " + delay + ")";
        Creditfabric x = new Creditfabric();
        if (isIn(2, columns, 4) && isIn(2, rows, 4) && isIn(1, room, 3) && isIn(0, delay, 3)) {
            Checks.due(call, columns * rows, x.begin(columns, rows, room, delay));
            Checks.due(call + ": room", room, x.credits(0, 0, 0));
        } else {
            Checks.argument(call, () -> x.begin(columns, rows, room, delay));
            Checks.due(call + " refused: last switch", 1, x.gap(3));
            Checks.index(call + " refused: one switch more", () -> x.gap(4));
            Checks.due(call + " refused: room", 1, x.credits(0, 0, 0));
        }
    }

    private static void howManySwitches() {
        Checks.sentence("Returns how many switches it has.");
        Creditfabric x = new Creditfabric();
        int[][] sizes = {{4, 4, 16}, {2, 2, 4}, {2, 4, 8}, {4, 2, 8}, {3, 3, 9}, {2, 3, 6}, {3, 2, 6}, {3, 4, 12},
            {4, 3, 12}};
        for (int[] size : sizes) {
            Checks.due(size[0] + " columns, " + size[1] + " rows", size[2], x.begin(size[0], size[1], 1, 0));
            Checks.due("the last one", 1, x.gap(size[2] - 1));
            Checks.index("behind the last one", () -> x.gap(size[2]));
        }
    }

    /** Packets, ticks, credits, pauses and gaps of the grid before are gone, whichever grid that was. */
    private static void withoutPacketsAtTickZero() {
        Checks.sentence("Begins a grid anew, without packets; the tick is 0.");
        Creditfabric x = Grids.grid(4, 4, 3, 3);
        for (int its = 0; its < 16; its++) {
            x.send(its, 15 - its, its % 2, its / 8);
            x.pause(its, its % 3 == 0);
        }
        x.run(3);
        x.lose(0, 0, 0);
        Checks.due("smaller", 4, x.begin(2, 2, 3, 3));
        Checks.due("smaller", Questions.all(Grids.grid(2, 2, 3, 3), 2, 2), Questions.all(x, 2, 2));
        Checks.due("larger again", 16, x.begin(4, 4, 3, 3));
        Checks.due("larger again", Questions.all(Grids.grid(4, 4, 3, 3), 4, 4), Questions.all(x, 4, 4));
        Checks.index("no packet", () -> x.placeOf(0));
        for (int its = 0; its < 16; its++) {
            Checks.due("no pause of " + its, false, x.pause(its, false));
        }
    }

    /** Before, packet 3 was marked and went out, its credit is on its way back, another one is lost, a gap is 2. */
    private static void nothingIsLeftOfTheGridBefore() {
        Checks.sentence("Begins a grid anew (what was under way comes no more)");
        Creditfabric x = Grids.grid(2, 2, 3, 3);
        x.pause(3, true);
        Grids.sendInARow(x, 3, 1, 3, 0);
        x.send(0, 1, 1, 0);
        x.run(2);
        x.lose(2, 0, 0);
        x.send(0, 1, 1, 0);
        Checks.due("before: marked", true, x.isMarked(3));
        Checks.due("before: gap", 2, x.gap(0));
        Checks.due("before: out", 1, x.arrived());
        Checks.due("before: its credit is on its way", 2, x.credits(0, 0, 1));
        x.begin(2, 2, 3, 3);
        Checks.due("none out", 0, x.arrived());
        for (int its = 0; its < 4; its++) {
            Checks.due("it has not sent any", its, x.send(its, its ^ 1, 0, 0));
            Checks.due("hops", 0, x.hops(its));
            Checks.due("mark", false, x.isMarked(its));
        }
        Checks.due("all go out, none is paused", 4, x.run(2));
        x.run(10);
        Checks.due("no credit too many", 3, x.credits(0, 0, 1));
        Checks.due("none is lost", 0, x.recover());
    }

    private static void numbersOfSwitches() {
        Checks.sentence("the switch in row r and column c has the number r * columns + c");
        for (int columns = 2; columns <= 4; columns++) {
            for (int rows = 2; rows <= 4; rows++) {
                for (int its = 1; its < columns * rows; its++) {
                    Creditfabric x = Grids.grid(columns, rows, 1, 0);
                    x.send(0, its, 0, 0);
                    int way = its % columns + its / columns;
                    x.run(way);
                    Checks.due("the way to " + its + " of " + columns + " columns", its, x.placeOf(0));
                    Checks.due("so many links to " + its, way, x.hops(0));
                }
            }
        }
    }

    private static void linksToNeighbours() {
        Checks.sentence("A link goes from each switch to each of its neighbours.");
        for (int columns = 2; columns <= 4; columns++) {
            for (int rows = 2; rows <= 4; rows++) {
                for (int its = 0; its < columns * rows; its++) {
                    linksOf(columns, rows, its);
                }
            }
        }
    }

    private static void linksOf(int columns, int rows, int its) {
        Creditfabric x = Grids.grid(columns, rows, 2, 0);
        for (int direction : around(0, 3)) {
            linkOf(x, columns, rows, its, direction);
        }
        linkOf(x, columns, rows, its, 1);
        linkOf(x, columns, rows, its, 2);
    }

    private static void linkOf(Creditfabric x, int columns, int rows, int its, int direction) {
        String link = "from " + its + " in direction " + direction + " of " + columns + " columns, " + rows + " rows";
        for (int lane = 0; lane < 2; lane++) {
            int inLane = lane;
            if (Grids.behind(columns, rows, its, direction) != Grids.NONE) {
                Checks.due("credits " + link, 2, x.credits(its, direction, lane));
                Checks.due("lose " + link, 1, x.lose(its, direction, lane));
                Checks.due("credits after lose " + link, 1, x.credits(its, direction, lane));
                Checks.due("recover " + link, 1, x.recover());
            } else {
                Checks.index("credits, no link " + link, () -> x.credits(its, direction, inLane));
                Checks.index("lose, no link " + link, () -> x.lose(its, direction, inLane));
            }
        }
    }

    private static void linksLeadToNeighbours() {
        Checks.sentence("The directions are 0 east (column + 1), 1 south (row + 1), 2 west, 3 north.");
        for (int columns = 2; columns <= 4; columns++) {
            for (int rows = 2; rows <= 4; rows++) {
                for (int its = 0; its < columns * rows; its++) {
                    for (int direction = 0; direction < 4; direction++) {
                        int goal = Grids.behind(columns, rows, its, direction);
                        if (goal != Grids.NONE) {
                            goOver(Grids.grid(columns, rows, 1, 0), its, direction, goal);
                        }
                    }
                }
            }
        }
    }

    private static void goOver(Creditfabric x, int its, int direction, int goal) {
        String link = "from " + its + " in direction " + direction;
        x.send(its, goal, 1, 0);
        Checks.due("wants " + link, direction, x.wants(0));
        x.run(1);
        Checks.due("place " + link, goal, x.placeOf(0));
        Checks.due("the buffer of the link " + link, 1, x.inBuffer(goal, direction, 1));
        Checks.due("the credit of the link " + link, 0, x.credits(its, direction, 1));
    }

    // ---- promise 3

    private static void switchesOfSend() {
        Checks.sentence("send: Throws IndexOutOfBoundsException if there is no such switch");
        for (int columns = 2; columns <= 4; columns++) {
            Creditfabric x = Grids.grid(columns, 3, 1, 0);
            int count = columns * 3;
            for (int its : new int[] {-1, count, count + 1, 16, 17, FARTHEST_DOWN, FARTHEST_UP}) {
                if (its < 0 || its >= count) {
                    Checks.index("from " + its, () -> x.send(its, 1, 0, 0));
                    Checks.index("to " + its, () -> x.send(1, its, 0, 0));
                    Checks.index("from and to " + its, () -> x.send(its, its, 0, 0));
                }
            }
            Checks.due("from the first to the last", 0, x.send(0, count - 1, 0, 0));
            Checks.due("from the last to the first", 1, x.send(count - 1, 0, 0, 0));
        }
    }

    private static void sourceAndGoal() {
        Checks.sentence("send: Throws IllegalArgumentException if both are the same");
        Creditfabric x = Grids.grid(3, 3, 1, 0);
        for (int its = 0; its < 9; its++) {
            int same = its;
            Checks.argument("from " + its + " to itself", () -> x.send(same, same, 0, 0));
        }
        Checks.due("to the one before", 0, x.send(4, 3, 0, 0));
        x.run(2);
        Checks.due("to the one after", 1, x.send(4, 5, 0, 0));
    }

    private static void laneOfSend() {
        Checks.sentence("send: lane: 0 or 1");
        Creditfabric x = Grids.grid(2, 2, 1, 0);
        for (int lane : new int[] {-1, 2, 3, FARTHEST_DOWN, FARTHEST_UP}) {
            Checks.argument("lane " + lane, () -> x.send(0, 1, lane, 0));
        }
        Checks.due("lane 0", 0, x.send(0, 1, 0, 0));
        Checks.due("lane 1", 1, x.send(1, 0, 1, 0));
        Checks.due("lane 0 is in buffer 0", 1, x.inBuffer(0, 4, 0));
        Checks.due("lane 0 is not in buffer 1", 0, x.inBuffer(0, 4, 1));
        Checks.due("lane 1 is in buffer 1", 1, x.inBuffer(1, 4, 1));
        Checks.due("lane 1 is not in buffer 0", 0, x.inBuffer(1, 4, 0));
    }

    private static void modeOfSend() {
        Checks.sentence("send: mode: 0 or 1");
        Creditfabric x = Grids.grid(2, 2, 1, 0);
        for (int mode : new int[] {-1, 2, 3, FARTHEST_DOWN, FARTHEST_UP}) {
            Checks.argument("mode " + mode, () -> x.send(0, 1, 0, mode));
        }
        x.send(0, 3, 0, 0);
        x.send(3, 0, 0, 1);
        Checks.due("mode 0: along its row first", 0, x.wants(0));
        Checks.due("mode 1: along the column first", 3, x.wants(1));
    }

    // ---- promise 4

    private static void ticksOfRun() {
        Checks.sentence("run: ticks: 1 to 50");
        for (int ticks : new int[] {1, 2, 49, 50}) {
            Creditfabric x = Grids.grid(2, 2, 1, 0);
            x.send(0, 1, 0, 0);
            Checks.due("run(" + ticks + ")", ticks > 1 ? 1 : 0, x.run(ticks));
            Checks.due("tick after run(" + ticks + ")", ticks, x.tick());
        }
        Creditfabric x = Grids.grid(2, 2, 1, 0);
        for (int ticks : new int[] {-1, 0, 51, 52, -50, FARTHEST_DOWN, FARTHEST_UP}) {
            Checks.argument("run(" + ticks + ")", () -> x.run(ticks));
            Checks.due("tick after run(" + ticks + ")", 0, x.tick());
        }
    }

    // ---- promises 5 and 6

    private static void switchesOfPause() {
        Checks.sentence("pause: Throws IndexOutOfBoundsException if there is no such switch");
        for (int columns = 2; columns <= 4; columns++) {
            Creditfabric x = Grids.grid(columns, 2, 1, 0);
            int count = columns * 2;
            for (int its : new int[] {-1, count, count + 1, 16, FARTHEST_DOWN, FARTHEST_UP}) {
                Checks.index("pause(" + its + ", true)", () -> x.pause(its, true));
                Checks.index("pause(" + its + ", false)", () -> x.pause(its, false));
            }
            for (int its = 0; its < count; its++) {
                Checks.due("pause " + its, false, x.pause(its, true));
            }
            for (int its = 0; its < count; its++) {
                Checks.due("pause no more " + its, true, x.pause(its, false));
            }
        }
    }

    private static void linksOfLose() {
        Checks.sentence("lose, credits: Throws IndexOutOfBoundsException if there is no such switch, "
            + "or no link from it in this direction");
        Creditfabric x = Grids.grid(3, 2, 1, 0);
        for (int its : new int[] {-1, 6, 7, 16, FARTHEST_DOWN, FARTHEST_UP}) {
            for (int direction = -1; direction <= 4; direction++) {
                int inDirection = direction;
                Checks.index("lose at " + its, () -> x.lose(its, inDirection, 0));
                Checks.index("credits at " + its, () -> x.credits(its, inDirection, 0));
            }
        }
        for (int direction : new int[] {-1, 4, 5, FARTHEST_DOWN, FARTHEST_UP}) {
            Checks.index("lose in direction " + direction, () -> x.lose(1, direction, 0));
            Checks.index("credits in direction " + direction, () -> x.credits(1, direction, 0));
        }
        Checks.due("lose at the first", 0, x.lose(0, 0, 0));
        Checks.due("lose at the last", 0, x.lose(5, 3, 1));
        Checks.due("both are lost, and no more", 2, x.recover());
    }

    private static void laneOfLose() {
        Checks.sentence("lose: lane: 0 or 1");
        Creditfabric x = Grids.grid(2, 2, 1, 0);
        for (int lane : new int[] {-1, 2, 3, FARTHEST_DOWN, FARTHEST_UP}) {
            Checks.argument("lane " + lane, () -> x.lose(0, 0, lane));
        }
        Checks.due("lane 0", 0, x.lose(0, 0, 0));
        Checks.due("lane 1 is another", 1, x.credits(0, 0, 1));
        Checks.due("lane 1", 0, x.lose(0, 0, 1));
    }

    // ---- promises 11 to 13

    private static void laneOfCredits() {
        Checks.sentence("credits: lane: 0 or 1");
        Creditfabric x = Grids.grid(2, 2, 2, 0);
        for (int lane : new int[] {-1, 2, 3, FARTHEST_DOWN, FARTHEST_UP}) {
            Checks.argument("lane " + lane, () -> x.credits(0, 0, lane));
        }
        x.lose(0, 0, 0);
        Checks.due("lane 0", 1, x.credits(0, 0, 0));
        Checks.due("lane 1", 2, x.credits(0, 0, 1));
    }

    private static void inputOfInBuffer() {
        Checks.sentence("inBuffer: input: 0 to 3 for the link that goes in this direction, 4 for its own");
        Creditfabric x = Grids.grid(3, 3, 1, 0);
        x.pause(1, true);
        x.send(4, 1, 0, 0);
        for (int direction = 0; direction < 4; direction++) {
            x.send(Grids.ahead(3, 3, 4, direction), 4, 0, 0);
        }
        for (int input = 0; input < 4; input++) {
            Checks.due("input " + input + " before", 0, x.inBuffer(4, input, 0));
        }
        x.run(1);
        for (int input : new int[] {-1, 5, 6, FARTHEST_DOWN, FARTHEST_UP}) {
            Checks.argument("input " + input, () -> x.inBuffer(4, input, 0));
        }
        for (int input = 0; input <= 4; input++) {
            Checks.due("input " + input, 1, x.inBuffer(4, input, 0));
        }
        for (int its : new int[] {-1, 9, 10, 16, FARTHEST_DOWN, FARTHEST_UP}) {
            Checks.index("switch " + its, () -> x.inBuffer(its, 4, 0));
        }
    }

    private static void laneOfInBuffer() {
        Checks.sentence("inBuffer: Throws IllegalArgumentException if input or lane is out of range");
        Creditfabric x = Grids.grid(2, 2, 1, 0);
        x.send(0, 1, 1, 0);
        for (int lane : new int[] {-1, 2, 3, FARTHEST_DOWN, FARTHEST_UP}) {
            for (int input = -1; input <= 5; input++) {
                int inInput = input;
                Checks.argument("lane " + lane + ", input " + input, () -> x.inBuffer(0, inInput, lane));
            }
        }
        Checks.due("lane 0", 0, x.inBuffer(0, 4, 0));
        Checks.due("lane 1", 1, x.inBuffer(0, 4, 1));
    }

    /** Every link that there is holds a packet, so that a wrong buffer would not be empty. */
    private static void zeroWithoutALink() {
        Checks.sentence("inBuffer: Returns how many; 0 if there is no such link.");
        for (int columns = 2; columns <= 4; columns++) {
            for (int rows = 2; rows <= 4; rows++) {
                for (int lane = 0; lane < 2; lane++) {
                    fillInputs(Grids.grid(columns, rows, 3, 0), columns, rows, lane);
                }
            }
        }
    }

    private static void fillInputs(Creditfabric x, int columns, int rows, int lane) {
        for (int its = 0; its < columns * rows; its++) {
            x.send(its, columns * rows - 1 - its + (2 * its == columns * rows - 1 ? 1 : 0), lane, its % 2);
        }
        for (int tick = 0; tick < 2; tick++) {
            for (int its = 0; its < columns * rows; its++) {
                for (int input = 0; input < 4; input++) {
                    if (Grids.ahead(columns, rows, its, input) == Grids.NONE) {
                        Checks.due("no link " + input + " to " + its, 0, x.inBuffer(its, input, lane));
                    }
                }
            }
            x.run(1);
        }
    }

    private static void switchesOfGap() {
        Checks.sentence("gap: Throws IndexOutOfBoundsException if there is no such switch");
        for (int columns = 2; columns <= 4; columns++) {
            Creditfabric x = Grids.grid(columns, 4, 1, 0);
            int count = columns * 4;
            for (int its : new int[] {-1, count, count + 1, FARTHEST_DOWN, FARTHEST_UP}) {
                Checks.index("gap(" + its + ")", () -> x.gap(its));
            }
            Checks.due("the first", 1, x.gap(0));
            Checks.due("the last", 1, x.gap(count - 1));
        }
    }

    // ---- promises 14 to 17

    private static void numbersOfPackets() {
        Checks.sentence("placeOf, hops, isMarked, wants: Throws IndexOutOfBoundsException if there is no such packet");
        Creditfabric x = Grids.grid(2, 2, 3, 0);
        int[] beside = {-1, -2, 80, 81, FARTHEST_DOWN, FARTHEST_UP};
        for (int count = 0; count <= 4; count++) {
            int next = count;
            noPacket(x, next);
            for (int packet : beside) {
                noPacket(x, packet);
            }
            for (int packet = 0; packet < count; packet++) {
                Checks.due("place of " + packet, packet, x.placeOf(packet));
                Checks.due("hops of " + packet, 0, x.hops(packet));
                Checks.due("mark of " + packet, false, x.isMarked(packet));
                Checks.due("wants of " + packet, packet % 2 == 0 ? 0 : 2, x.wants(packet));
            }
            if (count < 4) {
                Checks.due("numbered from 0 on", count, x.send(count, count ^ 1, 0, 0));
            }
        }
    }

    private static void noPacket(Creditfabric x, int packet) {
        Checks.index("placeOf(" + packet + ")", () -> x.placeOf(packet));
        Checks.index("hops(" + packet + ")", () -> x.hops(packet));
        Checks.index("isMarked(" + packet + ")", () -> x.isMarked(packet));
        Checks.index("wants(" + packet + ")", () -> x.wants(packet));
    }

    private static void noneWhenOut() {
        Checks.sentence("placeOf, wants: NONE if it went out.");
        Checks.due("NONE", -1, Creditfabric.NONE);
        Creditfabric x = Grids.grid(2, 2, 1, 0);
        x.send(1, 0, 0, 0);
        Checks.due("at its source", 1, x.placeOf(0));
        Checks.due("wants the link", 2, x.wants(0));
        x.run(1);
        Checks.due("at its goal, not yet out: the switch 0", 0, x.placeOf(0));
        Checks.due("at its goal it wants out", 4, x.wants(0));
        Checks.due("not yet arrived", 0, x.arrived());
        x.run(1);
        Checks.due("out: place", -1, x.placeOf(0));
        Checks.due("out: wants", -1, x.wants(0));
        Checks.due("out: arrived", 1, x.arrived());
        Checks.due("out: sent all the same", 1, x.packets());
        x.run(50);
        Checks.due("out for ever", -1, x.placeOf(0));
        Checks.due("arrived but once", 1, x.arrived());
    }

    private static void hopsFromZeroOn() {
        Checks.sentence("hops: Returns how many links a packet has gone over.");
        for (int mode = 0; mode < 2; mode++) {
            Creditfabric x = Grids.grid(4, 4, 1, 0);
            x.send(12, 3, 0, mode);
            for (int hop = 0; hop <= 6; hop++) {
                Checks.due("hops after " + hop, hop, x.hops(0));
                x.run(1);
            }
            Checks.due("going out goes over no link", 6, x.hops(0));
            x.run(50);
            Checks.due("hops of one that is out", 6, x.hops(0));
        }
    }

    private static void everyOutputIsWanted() {
        Checks.sentence("wants: Returns 0 to 4");
        Creditfabric x = Grids.grid(3, 3, 1, 0);
        int[] goals = {5, 7, 3, 1};
        for (int direction = 0; direction < 4; direction++) {
            int packet = x.send(4, goals[direction], 0, direction % 2);
            Checks.due("wants the link " + direction, direction, x.wants(packet));
            x.run(1);
            Checks.due("wants out", 4, x.wants(packet));
        }
    }

    /** On 4 x 4 the way turns in the third link; one before and one behind it lie on a line with the turn. */
    private static void turnsWhereTheGoalIs() {
        Checks.sentence("by mode 0 it goes along its row first, until it is in the column of its goal, then along "
            + "the column; by mode 1 along the column first, then along the row");
        int[][] ways = {{0, 1, 2, 3, 7, 11, 15}, {0, 4, 8, 12, 13, 14, 15}, {15, 14, 13, 12, 8, 4, 0},
            {15, 11, 7, 3, 2, 1, 0}, {3, 2, 1, 0, 4, 8, 12}, {3, 7, 11, 15, 14, 13, 12}, {12, 13, 14, 15, 11, 7, 3},
            {12, 8, 4, 0, 1, 2, 3}};
        for (int i = 0; i < ways.length; i++) {
            int[] way = ways[i];
            Creditfabric x = Grids.grid(4, 4, 1, 0);
            x.send(way[0], way[6], 1, i % 2);
            for (int its : way) {
                Checks.due("on the way by mode " + i % 2 + " to " + way[6], its, x.placeOf(0));
                x.run(1);
            }
            Checks.due("at its goal it goes out", -1, x.placeOf(0));
        }
    }

    // ---- promise 8

    private static void ticksAreCounted() {
        Checks.sentence("tick: Returns the tick.");
        Creditfabric x = new Creditfabric();
        Checks.due("new", 0, x.tick());
        x.run(1);
        Checks.due("one", 1, x.tick());
        x.run(50);
        Checks.due("and fifty", 51, x.tick());
        x.begin(2, 2, 1, 0);
        Checks.due("anew", 0, x.tick());
    }

    private static void fiveHundredAndTwelveCalls() {
        Checks.sentence("An object is used for at most 512 calls after it has been made");
        Creditfabric x = new Creditfabric();
        for (int call = 1; call <= 510; call++) {
            Checks.due("run(50)", 0, x.run(50));
        }
        Checks.due("call 511", 25500, x.tick());
        Checks.due("call 512: sent long after the last tick that counts", 0, x.send(0, 1, 0, 0));
    }
}
