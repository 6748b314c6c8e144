/** The sentences of the document on circles: full and one below full, first in a buffer or not, closed or open. */
public final class WaitingTest {
    // Clockwise on 2 x 2: the buffers of the links to 1, 3, 2, and 0, and what fills them: source, goal, mode.
    private static final int[][] CLOCKWISE = {{0, 3, 0}, {1, 2, 1}, {3, 0, 0}, {2, 1, 1}};
    private static final int[][] COUNTER = {{0, 3, 1}, {2, 1, 0}, {3, 0, 1}, {1, 2, 0}};
    private static final int[][] CLOCKWISE_BUFFERS = {{1, 0}, {3, 1}, {2, 2}, {0, 3}};

    // The same on 3 x 3, round its eight outer switches; each packet goes as far along the edge as it can.
    private static final int[][] FAR_ROUND_THE_EDGE = {{0, 8, 0}, {1, 8, 0}, {2, 6, 1}, {5, 6, 1}, {8, 0, 0}, {7, 0, 0},
        {6, 2, 1}, {3, 2, 1}};
    private static final int[][] EDGE_BUFFERS = {{1, 0}, {2, 0}, {5, 1}, {8, 1}, {7, 2}, {6, 2}, {3, 3}, {0, 3}};

    private WaitingTest() {
    }

    public static void main(String[] args) {
        noneAtFirst();
        for (int lane = 0; lane < 2; lane++) {
            fourWait(lane);
            threeWait(lane);
            whoWaitsForACircle(lane);
            aRowWithoutAnEnd(lane);
            roundTheEdge(lane);
        }
        for (int room = 1; room <= 3; room++) {
            fullAndOneBelow(room);
        }
        twoWaysRound();
        manyCircles();
        whoWantsOutDoesNotWait();
        onlyTheFirstWaits();
        creditsDoNotMatter();
        pausesDoNotMatter();
        begunAnewNoneWaits();
        nothingHangs();
        eachLinkOfARingHangs();
        upToItsGoal();
        longWaysHang();
        notOnlyTheFirstHangs();
        asItIsNow();
        Checks.finish();
    }

    private static void send(Creditfabric x, int[][] packets, int lane) {
        for (int[] p : packets) {
            x.send(p[0], p[1], lane, p[2]);
        }
    }

    // ---- promise 18

    private static void noneAtFirst() {
        Checks.sentence("circle: Returns how many buffers are on waiting circles now (none: 0).");
        Creditfabric x = new Creditfabric();
        Checks.due("new", 0, x.circle());
        send(x, CLOCKWISE, 0);
        Checks.due("full own inputs wait for no full buffer", 0, x.circle());
        x.begin(4, 4, 3, 3);
        Checks.due("begun", 0, x.circle());
    }

    private static void fourWait(int lane) {
        Checks.sentence("A waiting circle is a row of buffers each of which waits for the next one, and the last one "
            + "for the first one.");
        for (int[][] ring : new int[][][] {CLOCKWISE, COUNTER}) {
            Creditfabric x = Grids.grid(2, 2, 1, 0);
            send(x, ring, lane);
            x.run(1);
            Checks.due("four", 4, x.circle());
            Checks.due("nothing goes any more", 0, x.run(50));
            Checks.due("four for ever", 4, x.circle());
            for (int packet = 0; packet < 4; packet++) {
                Checks.due("where it was: " + packet, 1, x.hops(packet));
            }
        }
    }

    private static void threeWait(int lane) {
        Checks.sentence("A waiting circle is .. and the last one for the first one (one is missing)");
        for (int missing = 0; missing < 4; missing++) {
            Creditfabric x = Grids.grid(2, 2, 1, 0);
            for (int i = 0; i < 4; i++) {
                if (i != missing) {
                    x.send(CLOCKWISE[i][0], CLOCKWISE[i][1], lane, CLOCKWISE[i][2]);
                }
            }
            x.run(1);
            Checks.due("three wait in a row, without " + missing, 0, x.circle());
            Checks.due("all go out", 3, x.run(10));
        }
    }

    private static void whoWaitsForACircle(int lane) {
        Checks.sentence("how many buffers are on waiting circles (not those that wait for one)");
        Creditfabric x = Grids.grid(3, 2, 1, 0);
        int[][] ring = {{0, 4, 0}, {1, 3, 1}, {4, 0, 0}, {3, 1, 1}};
        send(x, ring, lane);
        x.run(1);
        Checks.due("four", 4, x.circle());
        send(x, ring, lane);
        Checks.due("their own inputs wait for it", 4, x.circle());
        x.send(2, 4, lane, 0);
        x.run(1);
        Checks.due("it waits at 1 in the buffer of its link", 1, x.inBuffer(1, 2, lane));
        Checks.due("the buffer of a link waits for it", 4, x.circle());
        x.send(2, 4, lane, 0);
        Checks.due("one waits for that one", 4, x.circle());
    }

    /** Full buffers in a row, each of which waits for the next one, but the last for none. */
    private static void aRowWithoutAnEnd(int lane) {
        Checks.sentence("A buffer waits for another one, if its first packet wants a link, and the buffer of that link "
            + "and lane is full.");
        Creditfabric x = Grids.grid(4, 2, 1, 0);
        x.pause(7, true);
        for (int i = 0; i < 4; i++) {
            x.send(0, 7, lane, 0);
            x.run(3);
        }
        for (int its = 1; its < 4; its++) {
            Checks.due("full at " + its, 1, x.inBuffer(its, 0, lane));
        }
        Checks.due("no circle", 0, x.circle());
    }

    /** Round the edge of 3 x 3 eight buffers wait. */
    private static void roundTheEdge(int lane) {
        Checks.sentence("how many buffers are on waiting circles (eight on one)");
        int[][] edge = {{0, 2, 0}, {1, 5, 0}, {2, 8, 0}, {5, 7, 1}, {8, 6, 0}, {7, 3, 0}, {6, 0, 0}, {3, 1, 1}};
        Creditfabric x = Grids.grid(3, 3, 1, 0);
        send(x, edge, lane);
        x.run(1);
        Checks.due("eight", 8, x.circle());
        Creditfabric open = Grids.grid(3, 3, 1, 0);
        send(open, edge, lane);
        open.pause(0, true);
        open.run(1);
        Checks.due("the last one did not come", 0, open.circle());
    }

    /** Round the edge of 3 x 3 each switch sends as far as it can, until all eight buffers are full and all stop. */
    private static void fullAndOneBelow(int room) {
        Checks.sentence("and the buffer of that link and lane is full (not one below)");
        Creditfabric x = Grids.grid(3, 3, room, 0);
        int most = 0;
        for (int tick = 0; tick < 8 && x.circle() == 0; tick++) {
            for (int[] p : FAR_ROUND_THE_EDGE) {
                sendIfItMay(x, p);
            }
            x.run(1);
            int least = fewestOnTheEdge(x, room);
            if (least < room) {
                most = Math.max(most, least);
                Checks.due("one is not full", 0, x.circle());
            }
        }
        Checks.due("all eight were one below full, room " + room, room - 1, most);
        Checks.due("all eight wait, room " + room, 8, x.circle());
        Checks.due("all eight are full, room " + room, room, fewestOnTheEdge(x, room));
        Checks.due("nothing goes any more", 0, x.run(50));
        Checks.due("all eight wait for ever", 8, x.circle());
    }

    private static int fewestOnTheEdge(Creditfabric x, int room) {
        int fewest = room;
        for (int[] buffer : EDGE_BUFFERS) {
            fewest = Math.min(fewest, x.inBuffer(buffer[0], buffer[1], 0));
        }
        return fewest;
    }

    private static void sendIfItMay(Creditfabric x, int[] p) {
        try {
            x.send(p[0], p[1], 0, p[2]);
        } catch (IllegalStateException e) {
            Checks.tell(true, "the buffer is full, or the gap is not over");
        }
    }

    private static void twoWaysRound() {
        Checks.sentence("how many buffers are on waiting circles (on two of one lane)");
        Creditfabric x = Grids.grid(2, 2, 1, 0);
        send(x, CLOCKWISE, 0);
        x.run(1);
        send(x, COUNTER, 0);
        x.run(1);
        Checks.due("eight", 8, x.circle());
    }

    /** Four rings on 4 x 4, in both lanes, clockwise and counter-clockwise: each one more makes four more. */
    private static void manyCircles() {
        Checks.sentence("how many buffers are on waiting circles (on many)");
        Creditfabric x = Grids.grid(4, 4, 1, 0);
        int[] corners = {0, 2, 8, 10};
        int due = 0;
        for (int lane = 0; lane < 2; lane++) {
            for (int[][] ring : new int[][][] {CLOCKWISE, COUNTER}) {
                for (int corner : corners) {
                    for (int[] p : ring) {
                        x.send(corner + inFour(p[0]), corner + inFour(p[1]), lane, p[2]);
                    }
                    x.run(1);
                    due += 4;
                    Checks.due("as many", due, x.circle());
                }
            }
        }
        Checks.due("sixty-four", 64, due);
    }

    /** The number that a switch of 2 columns has in the corner of 4 columns. */
    private static int inFour(int its) {
        return its < 2 ? its : its + 2;
    }

    private static void whoWantsOutDoesNotWait() {
        Checks.sentence("if its first packet wants a link (not out)");
        Creditfabric x = Grids.grid(2, 2, 1, 0);
        int[][] nextDoor = {{0, 1, 0}, {1, 3, 0}, {3, 2, 0}, {2, 0, 0}};
        send(x, nextDoor, 0);
        x.run(1);
        for (int[] buffer : CLOCKWISE_BUFFERS) {
            Checks.due("full", 1, x.inBuffer(buffer[0], buffer[1], 0));
        }
        Checks.due("all want out", 0, x.circle());
        Checks.due("all go out", 4, x.run(1));
        Creditfabric one = Grids.grid(2, 2, 1, 0);
        int[][] threeTurn = {{0, 3, 0}, {1, 2, 1}, {3, 0, 0}, {2, 0, 0}};
        send(one, threeTurn, 0);
        one.run(1);
        for (int[] buffer : CLOCKWISE_BUFFERS) {
            Checks.due("full", 1, one.inBuffer(buffer[0], buffer[1], 0));
        }
        Checks.due("one wants out", 0, one.circle());
    }

    /**
     * In each of four full buffers the first packet is at its goal, but another one goes out before it; the second of
     * each would wait for the next buffer, if it were the first.
     */
    private static void onlyTheFirstWaits() {
        Checks.sentence("if its first packet wants a link (what the second wants does not matter)");
        int[][] nextDoor = {{0, 1, 0}, {1, 3, 0}, {3, 2, 0}, {2, 0, 0}};
        int[][] nextDoorCounter = {{0, 2, 0}, {2, 3, 0}, {3, 1, 0}, {1, 0, 0}};
        Creditfabric x = Grids.grid(2, 2, 2, 0);
        // From now on the turn of each output 4 is behind the buffer of the ring, so that one comes last.
        send(x, nextDoor, 0);
        x.run(3);
        pauseAll(x, true);
        send(x, nextDoorCounter, 1);
        x.run(1);
        send(x, nextDoor, 0);
        x.run(1);
        send(x, CLOCKWISE, 0);
        pauseAll(x, false);
        x.run(1);
        Checks.due("those of the other way round go out first", 4, x.run(1));
        for (int[] buffer : CLOCKWISE_BUFFERS) {
            Checks.due("full", 2, x.inBuffer(buffer[0], buffer[1], 0));
        }
        Checks.due("the first ones are at their goals", 0, x.circle());
        Checks.due("they go out", 4, x.run(1));
        Checks.due("the second ones are first, but no buffer is full", 0, x.circle());
        Checks.due("they go out too", 4, x.run(10));
    }

    private static void pauseAll(Creditfabric x, boolean isPaused) {
        for (int its = 0; its < 4; its++) {
            x.pause(its, isPaused);
        }
    }

    private static void creditsDoNotMatter() {
        Checks.sentence("and the buffer of that link and lane is full (whatever credits there are)");
        Creditfabric x = Grids.grid(2, 2, 2, 3);
        send(x, CLOCKWISE, 0);
        x.run(1);
        int[][] links = {{0, 0}, {1, 1}, {3, 2}, {2, 3}};
        for (int[] link : links) {
            x.lose(link[0], link[1], 0);
            Checks.due("no credit", 0, x.credits(link[0], link[1], 0));
        }
        Checks.due("nothing can go", 0, x.run(10));
        Checks.due("but no buffer is full", 0, x.circle());
        Creditfabric full = Grids.grid(2, 2, 1, 0);
        send(full, CLOCKWISE, 0);
        full.run(1);
        full.recover();
        Checks.due("full, with nothing lost", 4, full.circle());
    }

    private static void pausesDoNotMatter() {
        Checks.sentence("A buffer waits for another one, if .. (pauses are not told of)");
        Creditfabric x = Grids.grid(2, 2, 1, 0);
        send(x, CLOCKWISE, 0);
        x.run(1);
        for (int its = 0; its < 4; its++) {
            x.pause(its, true);
            Checks.due("paused up to " + its, 4, x.circle());
        }
        Creditfabric roomy = Grids.grid(2, 2, 2, 0);
        send(roomy, CLOCKWISE, 0);
        roomy.run(1);
        pauseAll(roomy, true);
        Checks.due("all paused, none full", 0, roomy.circle());
    }

    private static void begunAnewNoneWaits() {
        Checks.sentence("Begins a grid anew, without packets (no circles)");
        Creditfabric x = Grids.grid(2, 2, 1, 0);
        send(x, CLOCKWISE, 0);
        x.run(1);
        Checks.due("before", 4, x.circle());
        Checks.due("before", true, x.mayCircle());
        x.begin(2, 2, 1, 0);
        Checks.due("anew", 0, x.circle());
        Checks.due("anew", false, x.mayCircle());
    }

    // ---- promise 19

    private static void nothingHangs() {
        Checks.sentence("mayCircle: Tells whether there is a circle in what hangs on what, as it is now (no packets).");
        Creditfabric x = new Creditfabric();
        Checks.due("new", false, x.mayCircle());
        send(x, CLOCKWISE, 0);
        Checks.due("four", true, x.mayCircle());
        x.begin(4, 4, 1, 0);
        Checks.due("begun", false, x.mayCircle());
        x.send(0, 15, 0, 0);
        Checks.due("one packet", false, x.mayCircle());
        x.send(15, 0, 0, 0);
        Checks.due("there and back", false, x.mayCircle());
    }

    private static void eachLinkOfARingHangs() {
        Checks.sentence("the buffer in which it is hangs on that of the next link that it will take, that one on the "
            + "next, .. all in its lane");
        for (int[][] ring : new int[][][] {CLOCKWISE, COUNTER}) {
            for (int missing = -1; missing < 4; missing++) {
                for (int otherLane = -1; otherLane < 4; otherLane++) {
                    Creditfabric x = Grids.grid(2, 2, 3, 0);
                    for (int i = 0; i < 4; i++) {
                        if (i != missing) {
                            x.send(ring[i][0], ring[i][1], i == otherLane ? 1 : 0, ring[i][2]);
                        }
                    }
                    boolean isClosed = missing < 0 && otherLane < 0;
                    Checks.due("without " + missing + ", in lane 1 " + otherLane, isClosed, x.mayCircle());
                }
            }
        }
    }

    private static void upToItsGoal() {
        Checks.sentence("and so on up to its goal (and no farther)");
        Creditfabric x = Grids.grid(2, 2, 1, 0);
        int[][] nextDoor = {{0, 1, 0}, {1, 3, 0}, {3, 2, 0}, {2, 0, 0}};
        send(x, nextDoor, 0);
        Checks.due("each hangs on the next buffer alone", false, x.mayCircle());
        x.run(1);
        Checks.due("at their goals they hang on none", false, x.mayCircle());
        Creditfabric otherMode = Grids.grid(2, 2, 1, 0);
        for (int[] p : CLOCKWISE) {
            otherMode.send(p[0], p[1], 0, 0);
        }
        Checks.due("all along their rows first", false, otherMode.mayCircle());
    }

    /** Two packets from corner to corner go round the edge of 3 x 3, two more join their ends. */
    private static void longWaysHang() {
        Checks.sentence("that one on the next, and so on up to its goal");
        int[][] edge = {{0, 8, 0}, {8, 0, 0}, {5, 7, 1}, {3, 1, 1}};
        for (int missing = -1; missing < 4; missing++) {
            Creditfabric x = Grids.grid(3, 3, 1, 0);
            for (int i = 0; i < 4; i++) {
                if (i != missing) {
                    x.send(edge[i][0], edge[i][1], 1, edge[i][2]);
                }
            }
            Checks.due("round the edge without " + missing, missing < 0, x.mayCircle());
        }
        Creditfabric large = Grids.grid(4, 4, 1, 0);
        int[][] largest = {{0, 15, 0}, {15, 0, 0}, {11, 14, 1}, {4, 1, 1}};
        for (int i = 0; i < 4; i++) {
            Checks.due("not yet round the edge of 4 x 4", false, large.mayCircle());
            large.send(largest[i][0], largest[i][1], 0, largest[i][2]);
        }
        Checks.due("round the edge of 4 x 4", true, large.mayCircle());
    }

    private static void notOnlyTheFirstHangs() {
        Checks.sentence("for each packet that is on its way (not only the first of each buffer)");
        int[][] nextDoor = {{0, 1, 0}, {1, 3, 0}, {3, 2, 0}, {2, 0, 0}};
        Creditfabric x = Grids.grid(2, 2, 2, 0);
        pauseAll(x, true);
        send(x, nextDoor, 0);
        x.run(1);
        Checks.due("those ahead of them", false, x.mayCircle());
        send(x, CLOCKWISE, 0);
        Checks.due("those behind them", true, x.mayCircle());
        Checks.due("that is no waiting circle", 0, x.circle());
    }

    /** Only the first two packets can go on: after two ticks the first one is at its goal, yet not out. */
    private static void asItIsNow() {
        Checks.sentence("for each packet that is on its way, the buffer in which it is hangs on ..");
        Creditfabric x = Grids.grid(2, 2, 2, 0);
        send(x, CLOCKWISE, 0);
        x.pause(0, true);
        x.pause(2, true);
        Checks.due("all in their own inputs", true, x.mayCircle());
        x.run(1);
        Checks.due("two went over a link", 2, x.hops(0) + x.hops(1));
        Checks.due("each still hangs on the next one", true, x.mayCircle());
        x.run(1);
        Checks.due("the first is at its goal", 3, x.placeOf(0));
        Checks.due("it hangs on none, so the ring is open", false, x.mayCircle());
        x.pause(0, false);
        x.pause(2, false);
        Checks.due("all go out", 4, x.run(20));
        Checks.due("those that went out hang on none", false, x.mayCircle());
        x.send(0, 3, 0, 0);
        Checks.due("nor do they with a new one", false, x.mayCircle());
    }
}
