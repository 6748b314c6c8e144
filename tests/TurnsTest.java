/** The sentences of the document on who goes in a tick: the ring and where it wraps around, pauses, all at once. */
public final class TurnsTest {
    // At the middle switch 4 of a grid of 3 x 3, what wants east can come from everywhere but the east.
    private static final int MIDDLE = 4;
    private static final int[] EASTWARD = {0, 1, 2, 3, 6, 7, 8, 9};

    private TurnsTest() {
    }

    public static void main(String[] args) {
        zeroAtFirst();
        for (int place : EASTWARD) {
            behindTheChosenOneEastward(place);
            roundTheWholeRing(place);
            zeroInANewGrid(place);
        }
        twiceRoundTheRing();
        for (int place = 0; place < 8; place++) {
            for (int lane = 0; lane < 2; lane++) {
                behindTheChosenOneOut(place, lane);
            }
        }
        for (int its = 0; its < 16; its++) {
            turnsOfEachLink(its);
            turnsOfEachWayOut(its);
        }
        aTickWithoutAChoice();
        whatIsSkippedComesLater();
        atMostOneForAnOutput();
        fiveOutputsInATick();
        manyInATick();
        onlyTheFirstOfABuffer();
        notTwoLinksInATick();
        noneMovesUpInTheSameTick();
        pausedBehindTheLink();
        pausedAheadOfTheLink();
        pauseLeavesOutAndOwnInput();
        pauseTellsWhetherItWas();
        pausedFromNowOn();
        whatRunAnswers();
        Checks.finish();
    }

    // ---- the ring

    /** Sends a packet that will wait at the middle in this place of the ring, wanting the goal's output. */
    private static int sendBy(Creditfabric x, int place, int goal) {
        int input = place / 2;
        int source = input == Grids.OWN ? MIDDLE : Grids.ahead(3, 3, MIDDLE, input);
        // From north and south it comes to the middle along the column, so it must go along that first.
        return x.send(source, goal, place % 2, input % 2);
    }

    /** A packet waits at the middle in each place from which one may want east; the switch in the east is paused. */
    private static int[] loadEastward(Creditfabric x, int room) {
        x.pause(5, true);
        int[] packets = new int[EASTWARD.length * room];
        for (int i = 0; i < packets.length; i++) {
            packets[i] = -1;
        }
        for (int round = 0; round < room; round++) {
            for (int lane = 0; lane < 2; lane++) {
                for (int i = lane; i < EASTWARD.length; i += 2) {
                    packets[round * EASTWARD.length + i] = sendBy(x, EASTWARD[i], 5);
                }
                x.run(1);
            }
        }
        x.pause(5, false);
        return packets;
    }

    private static void zeroAtFirst() {
        Checks.sentence("beginning with its next buffer, 0 at first");
        for (int first = 0; first < EASTWARD.length; first++) {
            for (int second = first + 1; second < EASTWARD.length; second++) {
                Creditfabric x = Grids.grid(3, 3, 2, 0);
                x.pause(5, true);
                int later = sendBy(x, EASTWARD[second], 5);
                x.run(1);
                int sooner = sendBy(x, EASTWARD[first], 5);
                x.run(1);
                x.pause(5, false);
                x.run(1);
                Checks.due("place " + EASTWARD[first] + " before " + EASTWARD[second], 5, x.placeOf(sooner));
                Checks.due("place " + EASTWARD[second] + " waits", MIDDLE, x.placeOf(later));
                x.run(1);
                Checks.due("place " + EASTWARD[second] + " then", 5, x.placeOf(later));
            }
        }
    }

    private static void behindTheChosenOneEastward(int place) {
        Checks.sentence("its next buffer is then the one behind that in the ring");
        Creditfabric x = Grids.grid(3, 3, 1, 0);
        int alone = sendBy(x, place, 5);
        x.run(3);
        Checks.due("alone by " + place, -1, x.placeOf(alone));
        int[] packets = loadEastward(x, 1);
        for (int step = 1; step <= 10; step++) {
            int next = indexOf((place + step) % 10);
            if (next >= 0) {
                Checks.due("waits until its turn", MIDDLE, x.placeOf(packets[next]));
                x.run(1);
                Checks.due("after " + place + " place " + EASTWARD[next], 5, x.placeOf(packets[next]));
            }
        }
    }

    private static int indexOf(int place) {
        for (int i = 0; i < EASTWARD.length; i++) {
            if (EASTWARD[i] == place) {
                return i;
            }
        }
        return -1;
    }

    private static void roundTheWholeRing(int place) {
        Checks.sentence("beginning with its next buffer .. the first one in the ring whose packet can go "
            + "(that just chosen comes last)");
        Creditfabric x = Grids.grid(3, 3, 2, 0);
        sendBy(x, place, 5);
        x.run(3);
        int again = sendBy(x, place, 5);
        x.run(1);
        if (place < 8) {
            Checks.due("at the middle", MIDDLE, x.placeOf(again));
            x.run(1);
        }
        Checks.due("alone again by " + place, 5, x.placeOf(again));
    }

    private static void twiceRoundTheRing() {
        Checks.sentence("The buffers of a switch are in a ring, by 2 times the input, and the lane");
        Creditfabric x = Grids.grid(3, 3, 2, 0);
        int[] packets = loadEastward(x, 2);
        for (int packet : packets) {
            Checks.due("waits until its turn", MIDDLE, x.placeOf(packet));
            x.run(1);
            Checks.due("its turn", 5, x.placeOf(packet));
        }
        x.run(2);
        Checks.due("all went out", 16, x.arrived());
    }

    /** After one that went out by this place, four come at once in a lane and go out in the order of the ring. */
    private static void behindTheChosenOneOut(int place, int lane) {
        Checks.sentence("its next buffer is then the one behind that in the ring (at the output 4)");
        Creditfabric x = Grids.grid(3, 3, 1, 0);
        int alone = sendBy(x, place, MIDDLE);
        x.run(3);
        Checks.due("alone by " + place, -1, x.placeOf(alone));
        int[] packets = new int[4];
        for (int input = 0; input < 4; input++) {
            packets[input] = sendBy(x, 2 * input + lane, MIDDLE);
        }
        x.run(1);
        for (int step = 1; step <= 10; step++) {
            int next = (place + step) % 10;
            if (next < 8 && next % 2 == lane) {
                Checks.due("waits until its turn", MIDDLE, x.placeOf(packets[next / 2]));
                x.run(1);
                Checks.due("after " + place + " place " + next, -1, x.placeOf(packets[next / 2]));
            }
        }
    }

    private static void zeroInANewGrid(int place) {
        Checks.sentence("its next buffer, 0 at first (in a grid begun anew, too)");
        Creditfabric x = Grids.grid(3, 3, 1, 0);
        sendBy(x, place, 5);
        x.run(1);
        if (place < 8) {
            sendBy(x, place, MIDDLE);
        }
        x.run(10);
        x.begin(3, 3, 1, 0);
        int[] packets = loadEastward(x, 1);
        x.run(1);
        Checks.due("place 0 before that behind " + place, 5, x.placeOf(packets[0]));
    }

    /** In each direction a packet of lane 0 goes alone; of the next two that of lane 1 is then the first. */
    private static void turnsOfEachLink(int its) {
        Checks.sentence("beginning with its next buffer .. each output (of each switch)");
        for (int direction = 0; direction < 4; direction++) {
            int goal = Grids.behind(4, 4, its, direction);
            if (goal != Grids.NONE) {
                Creditfabric x = Grids.grid(4, 4, 1, 0);
                x.send(its, goal, 0, 0);
                x.run(3);
                x.pause(goal, true);
                int later = x.send(its, goal, 0, 0);
                x.run(1);
                int sooner = x.send(its, goal, 1, 0);
                x.pause(goal, false);
                x.run(1);
                Checks.due("behind the chosen one at " + its, goal, x.placeOf(sooner));
                Checks.due("the chosen one comes last at " + its, its, x.placeOf(later));
            }
        }
    }

    /** From the first two neighbours in the ring: when one of them was taken alone, the other one is the next. */
    private static void turnsOfEachWayOut(int its) {
        Checks.sentence("beginning with its next buffer .. each output (4 of each switch)");
        int[] sources = new int[2];
        int found = 0;
        for (int input = 0; input < 4 && found < 2; input++) {
            if (Grids.ahead(4, 4, its, input) != Grids.NONE) {
                sources[found] = Grids.ahead(4, 4, its, input);
                found++;
            }
        }
        Creditfabric x = Grids.grid(4, 4, 1, 0);
        x.send(sources[0], its, 0, 0);
        x.run(3);
        int later = x.send(sources[0], its, 0, 0);
        int sooner = x.send(sources[1], its, 0, 0);
        x.run(2);
        Checks.due("behind the chosen one at " + its, -1, x.placeOf(sooner));
        Checks.due("the chosen one comes last at " + its, its, x.placeOf(later));
    }

    private static void aTickWithoutAChoice() {
        Checks.sentence("each output takes the first one .. its next buffer is then the one behind that (none taken: "
            + "it stays)");
        Creditfabric x = Grids.grid(3, 3, 1, 0);
        sendBy(x, 3, 5);
        x.run(20);
        int[] packets = loadEastward(x, 1);
        x.pause(5, true);
        x.run(20);
        x.pause(5, false);
        x.run(1);
        Checks.due("place 6 is the next one behind 3", 5, x.placeOf(packets[4]));
        Checks.due("place 0 is not", MIDDLE, x.placeOf(packets[0]));
    }

    /** Lane 0 has no credit: lane 1 goes, and the turn stands behind it; recovered, the ring goes on from there. */
    private static void whatIsSkippedComesLater() {
        Checks.sentence("the first one in the ring whose packet can go");
        Creditfabric x = Grids.grid(3, 3, 1, 0);
        int[] packets = loadEastward(x, 1);
        x.lose(MIDDLE, 0, 0);
        x.run(1);
        Checks.due("place 0 cannot go", MIDDLE, x.placeOf(packets[0]));
        Checks.due("place 1 can", 5, x.placeOf(packets[1]));
        x.recover();
        x.run(1);
        Checks.due("place 2 is the next one", 5, x.placeOf(packets[2]));
        Checks.due("place 0 waits for its turn", MIDDLE, x.placeOf(packets[0]));
        x.run(6);
        Checks.due("place 0 comes last", 5, x.placeOf(packets[0]));
    }

    // ---- all that goes in a tick

    private static void atMostOneForAnOutput() {
        Checks.sentence("each switch chooses for each output at most one packet");
        Creditfabric x = Grids.grid(3, 3, 3, 0);
        int[] packets = loadEastward(x, 1);
        for (int tick = 1; tick <= packets.length; tick++) {
            x.run(1);
            int waiting = 0;
            for (int packet : packets) {
                waiting += x.placeOf(packet) == MIDDLE ? 1 : 0;
            }
            Checks.due("one a tick over the link", packets.length - tick, waiting);
            Checks.due("one a tick out", tick - 1, x.arrived());
        }
    }

    private static void fiveOutputsInATick() {
        Checks.sentence("for each output at most one packet (each of the five in the same tick)");
        Creditfabric x = Grids.grid(3, 3, 1, 0);
        for (int direction = 0; direction < 4; direction++) {
            x.pause(Grids.behind(3, 3, MIDDLE, direction), true);
        }
        int east = x.send(3, 5, 0, 0);
        int south = x.send(1, 7, 0, 0);
        int west = x.send(5, 3, 0, 0);
        int north = x.send(7, 1, 0, 0);
        x.run(1);
        int out = x.send(3, MIDDLE, 1, 0);
        x.run(1);
        for (int direction = 0; direction < 4; direction++) {
            x.pause(Grids.behind(3, 3, MIDDLE, direction), false);
        }
        Checks.due("one went out", 1, x.run(1));
        Checks.due("out", -1, x.placeOf(out));
        Checks.due("east", 5, x.placeOf(east));
        Checks.due("south", 7, x.placeOf(south));
        Checks.due("west", 3, x.placeOf(west));
        Checks.due("north", 1, x.placeOf(north));
    }

    /** From each of 16 switches a packet goes in each lane, by different links; in the next tick all go out. */
    private static void manyInATick() {
        Checks.sentence("All packets that are chosen go at once (however many)");
        Creditfabric x = Grids.grid(4, 4, 1, 0);
        pauseAll(x, true);
        for (int lane = 0; lane < 2; lane++) {
            for (int its = 0; its < 16; its++) {
                x.send(its, lane == 0 ? its ^ 1 : its ^ 4, lane, 0);
            }
            x.run(1);
        }
        pauseAll(x, false);
        x.run(1);
        for (int packet = 0; packet < 32; packet++) {
            Checks.due("one link: " + packet, 1, x.hops(packet));
        }
        Checks.due("one out at each switch", 16, x.run(1));
        Checks.due("then the others", 16, x.run(1));
    }

    private static void pauseAll(Creditfabric x, boolean isPaused) {
        for (int its = 0; its < 16; its++) {
            x.pause(its, isPaused);
        }
    }

    private static void onlyTheFirstOfABuffer() {
        Checks.sentence("of those that are first in its buffers and want the output");
        Creditfabric x = Grids.grid(3, 3, 3, 0);
        x.pause(5, true);
        x.pause(7, true);
        int east = x.send(MIDDLE, 5, 0, 0);
        x.run(1);
        int south = x.send(MIDDLE, 7, 0, 0);
        x.run(1);
        int north = x.send(MIDDLE, 1, 0, 0);
        x.pause(7, false);
        x.run(1);
        Checks.due("the second does not go before the first", MIDDLE, x.placeOf(south));
        Checks.due("nor the third", MIDDLE, x.placeOf(north));
        x.pause(5, false);
        x.run(1);
        Checks.due("the first goes", 5, x.placeOf(east));
        Checks.due("the second not in the same tick", MIDDLE, x.placeOf(south));
        x.run(1);
        Checks.due("but in the next one", 7, x.placeOf(south));
        x.run(1);
        Checks.due("and then the third", 1, x.placeOf(north));
    }

    private static void notTwoLinksInATick() {
        Checks.sentence("All packets that are chosen go at once, each to the end of the buffer of its link, or out.");
        int[][] ways = {{0, 3}, {3, 0}, {0, 12}, {12, 0}};
        for (int[] way : ways) {
            Creditfabric x = Grids.grid(4, 4, 3, 0);
            x.send(way[0], way[1], 0, 0);
            for (int tick = 1; tick <= 3; tick++) {
                Checks.due("none out", 0, x.run(1));
                Checks.due("one link a tick", tick, x.hops(0));
            }
            Checks.due("out in the tick after it came", 1, x.run(1));
        }
        Creditfabric end = Grids.grid(2, 2, 2, 0);
        end.pause(3, true);
        end.send(0, 3, 0, 0);
        end.run(1);
        int behind = end.send(0, 1, 0, 0);
        end.run(1);
        Checks.due("both in the buffer of the link", 2, end.inBuffer(1, 0, 0));
        end.run(5);
        Checks.due("it is at the end of the buffer", 1, end.placeOf(behind));
        end.pause(3, false);
        end.run(2);
        Checks.due("the one ahead of it goes, then it", -1, end.placeOf(behind));
    }

    /** With room 1 none of a row can move up in the tick in which the one ahead of it goes. */
    private static void noneMovesUpInTheSameTick() {
        Checks.sentence("Then each switch chooses .. All packets that are chosen go at once (a place that becomes free "
            + "in a tick is not there in it)");
        Creditfabric x = Grids.grid(4, 2, 1, 0);
        x.pause(3, true);
        x.send(0, 3, 0, 0);
        x.run(2);
        x.send(0, 3, 0, 0);
        x.run(1);
        x.pause(3, false);
        x.run(1);
        Checks.due("the one ahead goes", 3, x.placeOf(0));
        Checks.due("the one behind does not move up yet", 1, x.placeOf(1));
        x.run(1);
        Checks.due("it moves up with the credit", 2, x.placeOf(1));
        Checks.due("the one ahead is out", -1, x.placeOf(0));
    }

    // ---- pauses

    private static void pausedBehindTheLink() {
        Checks.sentence("and the switch behind the link is not paused; no packets come to it over links");
        for (int direction = 0; direction < 4; direction++) {
            Creditfabric x = Grids.grid(3, 3, 1, 0);
            int source = Grids.ahead(3, 3, MIDDLE, direction);
            x.pause(MIDDLE, true);
            x.send(source, MIDDLE, 0, 0);
            x.run(50);
            Checks.due("paused", source, x.placeOf(0));
            Checks.due("no credit is taken", 1, x.credits(source, direction, 0));
            x.pause(MIDDLE, false);
            x.run(1);
            Checks.due("no more paused", MIDDLE, x.placeOf(0));
        }
    }

    private static void pausedAheadOfTheLink() {
        Checks.sentence("no packets come to it over links (but they go from it)");
        Creditfabric x = Grids.grid(3, 3, 1, 0);
        for (int its = 0; its < 9; its++) {
            x.pause(its, its != 5);
        }
        x.send(MIDDLE, 5, 0, 0);
        x.send(3, 5, 0, 0);
        x.run(1);
        Checks.due("from a paused switch to one that is not", 5, x.placeOf(0));
        Checks.due("from a paused switch to a paused one", 3, x.placeOf(1));
        x.send(5, 8, 0, 0);
        x.run(1);
        Checks.due("from one that is not paused to a paused one", 5, x.placeOf(2));
    }

    private static void pauseLeavesOutAndOwnInput() {
        Checks.sentence("no packets come to it over links (they are sent at it, and go out)");
        Creditfabric x = Grids.grid(2, 2, 1, 0);
        x.send(0, 1, 0, 0);
        x.run(1);
        x.pause(1, true);
        Checks.due("sent at a paused switch", 1, x.send(1, 0, 0, 0));
        Checks.due("at its goal it goes out", 1, x.run(1));
        Checks.due("and the one that was sent goes", 0, x.placeOf(1));
        x.run(1);
        Checks.due("the credit comes back all the same", 1, x.credits(0, 0, 0));
    }

    private static void pauseTellsWhetherItWas() {
        Checks.sentence("pause: Returns whether it was.");
        Creditfabric x = Grids.grid(2, 2, 1, 0);
        boolean[] are = {false, true, true, false, false, true, false};
        boolean was = false;
        for (boolean is : are) {
            Checks.due("from " + was + " to " + is, was, x.pause(2, is));
            was = is;
        }
        Checks.due("another one never was", false, x.pause(3, false));
    }

    private static void pausedFromNowOn() {
        Checks.sentence("isPaused: whether it is paused from now on");
        Creditfabric x = Grids.grid(4, 2, 1, 0);
        x.pause(2, true);
        x.send(0, 3, 0, 0);
        x.run(1);
        Checks.due("it comes as far as the paused one's neighbour", 1, x.placeOf(0));
        x.pause(2, true);
        x.run(1);
        Checks.due("paused twice is paused", 1, x.placeOf(0));
        x.pause(2, false);
        x.run(1);
        Checks.due("one call ends it", 2, x.placeOf(0));
        x.pause(2, true);
        x.run(1);
        Checks.due("what is there goes on", 3, x.placeOf(0));
    }

    // ---- what run answers

    private static void whatRunAnswers() {
        Checks.sentence("run: Returns how many packets went out in them.");
        Creditfabric x = Grids.grid(2, 2, 1, 0);
        Checks.due("empty", 0, x.run(50));
        x.send(0, 1, 0, 0);
        x.send(1, 0, 0, 0);
        x.send(2, 3, 0, 0);
        x.send(3, 2, 0, 0);
        Checks.due("one tick too few", 0, x.run(1));
        Checks.due("four in one tick", 4, x.run(1));
        Checks.due("they count but once", 0, x.run(50));
        Checks.due("all", 4, x.arrived());
        x.send(0, 1, 0, 0);
        Checks.due("in two ticks one", 1, x.run(2));
        Checks.due("run tells its own ticks, arrived tells all", 5, x.arrived());
    }
}
