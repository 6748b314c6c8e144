import java.util.ArrayList;
import java.util.List;

/**
 * The document from its first line to the end of its terms: each sentence that says what a call does, answers or throws,
 * quoted whole, and what would go wrong without it. PromisesTest goes on from there; edges are in the other tests.
 */
public final class TermsTest {
    // The middle switch of a grid of 3 x 3, and its neighbours by the direction in which its links go to them.
    private static final int MIDDLE = 4;
    private static final int[] NEIGHBOURS = {5, 7, 3, 1};

    // On 2 x 2: source, goal, mode of packets that go clockwise, each round one corner.
    private static final int[][] CLOCKWISE = {{0, 3, 0}, {1, 2, 1}, {3, 0, 0}, {2, 1, 1}};

    private TermsTest() {
    }

    public static void main(String[] args) {
        lossless();
        fiveHundredAndTwelveCalls();
        askingChangesNothing();
        switchesHaveNumbers();
        directions();
        linksToNeighbours();
        lanes();
        buffersOfASwitch();
        orderAndRoom();
        numbersOfPackets();
        waysAndModes();
        outAtTheGoal();
        fiveOutputs();
        creditsAtFirst();
        creditsTaken();
        creditsReturn();
        creditsComeBackFirst();
        onePacketForAnOutput();
        creditForTheLane();
        pausedBehind();
        ring();
        nextBuffer();
        outputsHaveTurnsOfTheirOwn();
        allAtOnce();
        marks();
        nextTick();
        gapBetweenSendings();
        gapGrowsAndShrinks();
        risingNumbers();
        waiting();
        waitingCircle();
        hanging();
        refusedCalls();
        whichException();
        none();
        Checks.finish();
    }

    // ---- what it is

    /** Whatever happens, each packet that was sent is in one buffer, at its place, until it went out. */
    private static void lossless() {
        Checks.sentence("A lossless fabric of switches in a grid: packets in virtual lanes that go on only with credits, "
            + "which return late, arbiters that take turns, pauses, waiting circles found while it runs, and before any "
            + "run in the graph of what hangs on what, lost credits that are recovered, and marks that slow senders "
            + "down.");
        Creditfabric x = Grids.grid(3, 2, 1, 2);
        x.pause(4, true);
        x.lose(1, Grids.WEST, 0);
        x.lose(4, Grids.EAST, 1);
        for (int lane = 0; lane < 2; lane++) {
            for (int its = 0; its < 6; its++) {
                x.send(its, 5 - its, lane, 0);
            }
            allAreThere(x);
            x.run(1);
        }
        x.run(5);
        allAreThere(x);
        Checks.due("both are recovered", 2, x.recover());
        x.pause(4, false);
        x.run(1);
        allAreThere(x);
        x.run(50);
        Checks.due("along rows first, all go out in the end", 12, x.arrived());
        allAreThere(x);
    }

    private static void allAreThere(Creditfabric x) {
        int inAll = 0;
        int[] at = new int[6];
        for (int packet = 0; packet < x.packets(); packet++) {
            int place = x.placeOf(packet);
            if (place != Creditfabric.NONE) {
                at[place]++;
            }
        }
        for (int its = 0; its < 6; its++) {
            int inBuffers = 0;
            for (int input = 0; input < 5; input++) {
                inBuffers += x.inBuffer(its, input, 0) + x.inBuffer(its, input, 1);
            }
            Checks.due("packets at " + its + " and in its buffers", at[its], inBuffers);
            inAll += inBuffers;
        }
        Checks.due("sent: in buffers or out", x.packets(), inAll + x.arrived());
    }

    private static void fiveHundredAndTwelveCalls() {
        Checks.sentence("An object is used for at most 512 calls after it has been made; what later calls answer is "
            + "free.");
        Creditfabric x = new Creditfabric();
        for (int call = 1; call < 512; call++) {
            x.begin(2, 2, 1, 0);
        }
        Checks.due("call 512", 0, x.send(0, 1, 0, 0));
    }

    // ---- the grid

    /** One is asked all questions after each step, its twin none; in the end they cannot be told apart. */
    private static void askingChangesNothing() {
        Checks.sentence("A grid is begun, packets sent, ticks run, switches paused, credits lost and recovered; places, "
            + "credits, circles and gaps are asked, which changes nothing.");
        Creditfabric asked = new Creditfabric();
        Creditfabric twin = new Creditfabric();
        for (int number = 0; number < 6; number++) {
            step(asked, number);
            step(twin, number);
            if (number == 3 || number == 5) {
                Checks.due("asked again", Questions.all(asked, 2, 2), Questions.all(asked, 2, 2));
            }
        }
        Checks.due("asked or not", Questions.all(twin, 2, 2), Questions.all(asked, 2, 2));
        Checks.due("behind ring place 0 comes 6", -1, asked.placeOf(2));
        Checks.due("ring place 0 waits", 1, asked.placeOf(1));
    }

    /** What goes out at 1 by ring place 0 moves its turn; a credit is lost, one on its way, and 2 is paused. */
    private static void step(Creditfabric x, int number) {
        switch (number) {
            case 0:
                x.begin(2, 2, 1, 0);
                break;
            case 1:
                x.send(0, 1, 0, 0);
                break;
            case 2:
                x.lose(0, Grids.SOUTH, 1);
                x.pause(2, true);
                break;
            case 3:
                x.run(2);
                break;
            case 4:
                x.send(0, 1, 0, 0);
                x.send(3, 1, 0, 0);
                break;
            default:
                x.run(2);
                break;
        }
    }

    private static void sendAll(Creditfabric x, int[][] packets, int lane) {
        for (int[] p : packets) {
            x.send(p[0], p[1], lane, p[2]);
        }
    }

    private static void switchesHaveNumbers() {
        Checks.sentence("The grid has 2 to 4 columns and 2 to 4 rows; the switch in row r and column c has the number "
            + "r * columns + c.");
        for (int columns = 2; columns <= 4; columns++) {
            for (int rows = 2; rows <= 4; rows++) {
                Creditfabric x = Grids.grid(columns, rows, 1, 0);
                for (int c = 1; c < columns; c++) {
                    int packet = x.send(0, (rows - 1) * columns + c, 0, 0);
                    x.run(c);
                    Checks.due("in row 0 and column " + c, c, x.placeOf(packet));
                    x.run(rows - 1);
                    Checks.due("in the last row and column " + c, (rows - 1) * columns + c, x.placeOf(packet));
                    Checks.due("at its goal", 4, x.wants(packet));
                    x.run(5);
                }
            }
        }
        Creditfabric x = new Creditfabric();
        Checks.argument("5 columns", () -> x.begin(5, 4, 1, 0));
        Checks.argument("1 row", () -> x.begin(4, 1, 1, 0));
    }

    private static void directions() {
        Checks.sentence("The directions are 0 east (column + 1), 1 south (row + 1), 2 west, 3 north.");
        for (int direction = 0; direction < 4; direction++) {
            Creditfabric x = Grids.grid(3, 3, 1, 0);
            int packet = x.send(MIDDLE, NEIGHBOURS[direction], 0, 0);
            Checks.due("wants", direction, x.wants(packet));
            x.run(1);
            Checks.due("the neighbour in the direction " + direction, NEIGHBOURS[direction], x.placeOf(packet));
        }
    }

    private static void linksToNeighbours() {
        Checks.sentence("A link goes from each switch to each of its neighbours.");
        for (int columns = 2; columns <= 4; columns++) {
            for (int rows = 2; rows <= 4; rows++) {
                Creditfabric x = Grids.grid(columns, rows, 2, 0);
                int links = 0;
                for (int its = 0; its < columns * rows; its++) {
                    for (int direction = 0; direction < 4; direction++) {
                        links += isLink(x, its, direction) ? 1 : 0;
                    }
                }
                Checks.due("links, both ways", 2 * (rows * (columns - 1) + columns * (rows - 1)), links);
            }
        }
    }

    private static boolean isLink(Creditfabric x, int its, int direction) {
        try {
            return x.credits(its, direction, 0) == 2;
        } catch (IndexOutOfBoundsException e) {
            return false;
        }
    }

    // ---- lanes and buffers

    private static void lanes() {
        Checks.sentence("There are two lanes, 0 and 1.");
        Creditfabric x = Grids.grid(2, 2, 1, 0);
        x.pause(1, true);
        for (int lane = 0; lane < 2; lane++) {
            int inLane = lane;
            Checks.due("a packet in each", lane, x.send(0, 1, lane, 0));
            x.run(1);
            Checks.state("each has a buffer of its own", () -> x.send(0, 1, inLane, 0));
            Checks.due("credits of each", 1, x.credits(0, Grids.EAST, lane));
        }
        x.lose(0, Grids.EAST, 0);
        Checks.due("those of the other lane are others", 1, x.credits(0, Grids.EAST, 1));
        Checks.argument("no lane 2", () -> x.send(2, 3, 2, 0));
        Checks.argument("no lane -1", () -> x.send(2, 3, -1, 0));
    }

    /** Packets that go straight through the middle, and two of its own, fill all of its ten buffers. */
    private static void buffersOfASwitch() {
        Checks.sentence("A switch has a buffer for each lane and each of its inputs: the links that come to it, told by "
            + "the direction in which the link goes, 0 to 3, and its own input, 4.");
        Creditfabric x = Grids.grid(3, 3, 1, 0);
        pauseNeighbours(x, true);
        for (int lane = 0; lane < 2; lane++) {
            x.send(MIDDLE, 5, lane, 0);
            for (int direction = 0; direction < 4; direction++) {
                x.send(Grids.ahead(3, 3, MIDDLE, direction), NEIGHBOURS[direction], lane, 0);
                Checks.due("not yet", 0, x.inBuffer(MIDDLE, direction, lane));
            }
            x.run(1);
            for (int input = 0; input <= 4; input++) {
                Checks.due("by input " + input + " in lane " + lane, 1, x.inBuffer(MIDDLE, input, lane));
                Checks.due("in the other lane", lane, x.inBuffer(MIDDLE, input, 1 - lane));
            }
        }
    }

    private static void pauseNeighbours(Creditfabric x, boolean isPaused) {
        for (int its : NEIGHBOURS) {
            x.pause(its, isPaused);
        }
    }

    private static void orderAndRoom() {
        Checks.sentence("A buffer has packets in their order; it has room for some, 1 to 3, the same for all.");
        for (int room = 1; room <= 3; room++) {
            Creditfabric x = Grids.grid(2, 2, room, 0);
            x.pause(3, true);
            // The first ones fill the buffer of the link from 0 to 1, the others the own input of 0.
            for (int i = 0; i < 2 * room; i++) {
                Checks.due("there is room", i, x.send(0, 3, 1, 0));
                x.run(1);
            }
            Checks.due("in the buffer of the link", room, x.inBuffer(1, Grids.EAST, 1));
            Checks.due("in the own input", room, x.inBuffer(0, Grids.OWN, 1));
            Checks.state("no more room", () -> x.send(0, 3, 1, 0));
            x.pause(3, false);
            for (int i = 0; i < 2 * room; i++) {
                Checks.due("not before those ahead of it", false, x.placeOf(i) == 3 || x.placeOf(i) == -1);
                for (int tick = 0; tick < 4 && x.placeOf(i) != 3; tick++) {
                    x.run(1);
                }
                Checks.due("in their order", 3, x.placeOf(i));
            }
        }
    }

    // ---- packets

    private static void numbersOfPackets() {
        Checks.sentence("Packets are numbered from 0 on, at most 80.");
        Creditfabric x = Grids.grid(2, 2, 1, 0);
        for (int i = 0; i < 80; i++) {
            Checks.due("the number", i, x.send(i % 4, (i + 1) % 4, 0, 0));
            if (i % 4 == 3) {
                x.run(4);
            }
        }
        Checks.state("the 81st", () -> x.send(0, 1, 1, 0));
        Checks.index("number 80", () -> x.placeOf(80));
        Checks.due("number 79 went out", -1, x.placeOf(79));
    }

    /** By mode 0 and mode 1 in turn, from each corner to the opposite one. */
    private static void waysAndModes() {
        Checks.sentence("A packet has a source, a goal, a lane that it keeps, and a mode: by mode 0 it goes along its "
            + "row first, until it is in the column of its goal, then along the column; by mode 1 along the column "
            + "first, then along the row.");
        int[][] ways = {{0, 1, 2, 5, 8}, {0, 3, 6, 7, 8}, {8, 7, 6, 3, 0}, {8, 5, 2, 1, 0}, {2, 1, 0, 3, 6},
            {2, 5, 8, 7, 6}, {6, 7, 8, 5, 2}, {6, 3, 0, 1, 2}};
        for (int i = 0; i < ways.length; i++) {
            for (int lane = 0; lane < 2; lane++) {
                Creditfabric x = Grids.grid(3, 3, 2, 0);
                int[] way = ways[i];
                x.send(way[0], way[4], lane, i % 2);
                for (int its : way) {
                    Checks.due("on its way by mode " + i % 2, its, x.placeOf(0));
                    Checks.due("in its lane", 1, inLane(x, its, lane));
                    Checks.due("not in the other one", 0, inLane(x, its, 1 - lane));
                    x.run(1);
                }
                Checks.due("out", -1, x.placeOf(0));
            }
        }
    }

    private static int inLane(Creditfabric x, int its, int lane) {
        int sum = 0;
        for (int input = 0; input <= 4; input++) {
            sum += x.inBuffer(its, input, lane);
        }
        return sum;
    }

    private static void outAtTheGoal() {
        Checks.sentence("At its goal it goes out.");
        Creditfabric x = Grids.grid(4, 4, 1, 0);
        x.send(0, 2, 0, 0);
        Checks.due("not on its way", 0, x.run(2));
        Checks.due("at its goal", 2, x.placeOf(0));
        Checks.due("from there", 1, x.run(1));
        Checks.due("out", -1, x.placeOf(0));
        Checks.due("in no buffer", 0, inLane(x, 2, 0));
    }

    private static void fiveOutputs() {
        Checks.sentence("So the first packet of each buffer wants one of the five outputs of its switch, 0 to 3 by links, "
            + "4 out.");
        Creditfabric x = Grids.grid(3, 3, 1, 0);
        for (int direction = 0; direction < 4; direction++) {
            int packet = x.send(MIDDLE, NEIGHBOURS[direction], 0, 0);
            Checks.due("by a link", direction, x.wants(packet));
            x.run(1);
            Checks.due("out", 4, x.wants(packet));
        }
    }

    // ---- credits

    private static void creditsAtFirst() {
        Checks.sentence("For each link and lane the switch ahead of it has credits, at first as many as a buffer has "
            + "room.");
        for (int room = 1; room <= 3; room++) {
            Creditfabric x = Grids.grid(3, 3, room, 3);
            for (int its = 0; its < 9; its++) {
                for (int direction = 0; direction < 4; direction++) {
                    if (Grids.behind(3, 3, its, direction) != Grids.NONE) {
                        Checks.due("lane 0", room, x.credits(its, direction, 0));
                        Checks.due("lane 1", room, x.credits(its, direction, 1));
                    }
                }
            }
        }
    }

    private static void creditsTaken() {
        Checks.sentence("A packet that goes over the link takes one.");
        for (int direction = 0; direction < 4; direction++) {
            Creditfabric x = Grids.grid(3, 3, 3, 0);
            x.send(MIDDLE, NEIGHBOURS[direction], 1, 0);
            Checks.due("not before it goes", 3, x.credits(MIDDLE, direction, 1));
            x.run(1);
            Checks.due("one", 2, x.credits(MIDDLE, direction, 1));
            Checks.due("of its lane", 3, x.credits(MIDDLE, direction, 0));
            Checks.due("of its link", 3, x.credits(NEIGHBOURS[direction], (direction + 2) % 4, 1));
        }
    }

    /** A packet comes to 1 in the tick 0 and leaves it in the tick 1, over a link or out. */
    private static void creditsReturn() {
        Checks.sentence("When a packet leaves a buffer of a link in the tick t, a credit is on its way back, and is there "
            + "at the beginning of the tick t + 1 + delay, the delay being 0 to 3 ticks.");
        for (int delay = 0; delay <= 3; delay++) {
            for (int goal : new int[] {1, 3}) {
                Creditfabric x = Grids.grid(2, 2, 1, delay);
                x.send(0, goal, 0, 0);
                x.run(2);
                for (int tick = 2; tick < 2 + delay; tick++) {
                    Checks.due("before the tick " + tick, 0, x.credits(0, Grids.EAST, 0));
                    x.run(1);
                }
                Checks.due("before the tick " + (2 + delay), 0, x.credits(0, Grids.EAST, 0));
                x.run(1);
                Checks.due("after the tick " + (2 + delay), 1, x.credits(0, Grids.EAST, 0));
            }
        }
    }

    /** With room 1 the second packet goes in the very tick at whose beginning the credit of the first is due. */
    private static void creditsComeBackFirst() {
        Checks.sentence("First the credits come back that are due.");
        for (int delay = 0; delay <= 3; delay++) {
            Creditfabric x = Grids.grid(2, 2, 1, delay);
            x.send(0, 1, 0, 0);
            x.run(1);
            x.send(0, 1, 0, 0);
            x.run(1 + delay);
            Checks.due("before it is due", 0, x.placeOf(1));
            x.run(1);
            Checks.due("in the tick in which it is due", 1, x.placeOf(1));
            Checks.due("it is taken at once", 0, x.credits(0, Grids.EAST, 0));
        }
    }

    // ---- who goes in a tick

    private static void onePacketForAnOutput() {
        Checks.sentence("Then each switch chooses for each output at most one packet, of those that are first in its "
            + "buffers and want the output: over a link only if there is a credit for the lane, and the switch behind "
            + "the link is not paused.");
        Creditfabric x = Grids.grid(3, 3, 3, 0);
        pauseNeighbours(x, true);
        int first = x.send(MIDDLE, 5, 0, 0);
        int west = x.send(3, 5, 0, 0);
        x.run(1);
        int second = x.send(MIDDLE, 7, 0, 0);
        int south = x.send(1, 7, 0, 0);
        x.run(1);
        pauseNeighbours(x, false);
        x.run(1);
        Checks.due("east: one", 5, x.placeOf(west));
        Checks.due("east: not two", MIDDLE, x.placeOf(first));
        Checks.due("south, in the same tick", 7, x.placeOf(south));
        Checks.due("not first in its buffer", MIDDLE, x.placeOf(second));
        x.run(1);
        Checks.due("east: the other", 5, x.placeOf(first));
        Checks.due("still not first in its buffer", MIDDLE, x.placeOf(second));
        x.run(1);
        Checks.due("first at last", 7, x.placeOf(second));
    }

    private static void creditForTheLane() {
        Creditfabric x = Grids.grid(2, 2, 1, 0);
        x.lose(0, Grids.EAST, 0);
        x.send(0, 1, 0, 0);
        x.run(1);
        x.send(0, 1, 1, 0);
        x.run(1);
        Checks.due("without a credit for its lane", 0, x.placeOf(0));
        Checks.due("with a credit for its lane", 1, x.placeOf(1));
        x.recover();
        x.run(1);
        Checks.due("with a credit again", 1, x.placeOf(0));
    }

    private static void pausedBehind() {
        Creditfabric x = Grids.grid(2, 2, 1, 0);
        x.pause(1, true);
        x.send(0, 1, 0, 0);
        x.send(1, 0, 0, 0);
        x.run(3);
        Checks.due("behind the link is a paused one", 0, x.placeOf(0));
        Checks.due("ahead of the link is a paused one", -1, x.placeOf(1));
        x.pause(1, false);
        x.run(1);
        Checks.due("paused no more", 1, x.placeOf(0));
    }

    /** From each input but that from the east a packet of each lane waits at the middle for the link to the east. */
    private static int[] eightEastward(Creditfabric x) {
        int[] packets = new int[8];
        int[] sources = {3, 1, 7, MIDDLE};
        x.pause(5, true);
        for (int lane = 0; lane < 2; lane++) {
            for (int i = 0; i < 4; i++) {
                packets[2 * i + lane] = x.send(sources[i], 5, lane, i == 0 ? 0 : 1);
            }
            x.run(1);
        }
        x.pause(5, false);
        return packets;
    }

    private static void ring() {
        Checks.sentence("The buffers of a switch are in a ring, by 2 times the input, and the lane; beginning with its "
            + "next buffer, 0 at first, each output takes the first one in the ring whose packet can go; its next buffer "
            + "is then the one behind that in the ring.");
        Creditfabric x = Grids.grid(3, 3, 1, 0);
        int[] packets = eightEastward(x);
        for (int packet : packets) {
            Checks.due("waits until its turn", MIDDLE, x.placeOf(packet));
            x.run(1);
            Checks.due("its turn", 5, x.placeOf(packet));
        }
        Creditfabric y = Grids.grid(3, 3, 1, 0);
        int[] others = eightEastward(y);
        y.lose(MIDDLE, Grids.EAST, 0);
        y.run(1);
        Checks.due("lane 0 cannot go", MIDDLE, y.placeOf(others[0]));
        Checks.due("the first one that can", 5, y.placeOf(others[1]));
    }

    /** One goes alone from a place of the ring; among all that wait then, the one behind that place is the first. */
    private static void nextBuffer() {
        int[] sources = {3, 1, 7, MIDDLE};
        for (int place = 0; place < 8; place++) {
            Creditfabric x = Grids.grid(3, 3, 1, 0);
            x.send(sources[place / 2], 5, place % 2, place < 2 ? 0 : 1);
            x.run(6);
            int[] packets = eightEastward(x);
            for (int step = 1; step <= 8; step++) {
                int next = packets[(place + step) % 8];
                Checks.due("waits until its turn", MIDDLE, x.placeOf(next));
                x.run(1);
                Checks.due("its turn", 5, x.placeOf(next));
            }
        }
    }

    /** What goes out at 1 does not move the turn of its link to the south, at which ring place 0 is the first then. */
    private static void outputsHaveTurnsOfTheirOwn() {
        Creditfabric x = Grids.grid(2, 2, 3, 0);
        x.send(3, 1, 0, 0);
        x.run(2);
        x.send(0, 3, 0, 0);
        x.run(1);
        x.send(1, 3, 0, 0);
        x.run(1);
        Checks.due("ring place 0", 3, x.placeOf(1));
        Checks.due("ring place 8 waits", 1, x.placeOf(2));
        x.run(1);
        Checks.due("then ring place 8", 3, x.placeOf(2));
    }

    /** No packet takes the place of one that goes in the same tick, nor goes twice. */
    private static void allAtOnce() {
        Checks.sentence("All packets that are chosen go at once, each to the end of the buffer of its link, or out.");
        Creditfabric x = Grids.grid(4, 2, 2, 0);
        int out = x.send(2, 3, 0, 0);
        x.run(1);
        int east = x.send(0, 3, 0, 0);
        int west = x.send(7, 4, 0, 0);
        Checks.due("one out", 1, x.run(1));
        Checks.due("out", -1, x.placeOf(out));
        Checks.due("by one link to the east", 1, x.placeOf(east));
        Checks.due("by one link to the west", 6, x.placeOf(west));
        Creditfabric y = Grids.grid(2, 2, 2, 0);
        y.pause(3, true);
        int ahead = y.send(0, 3, 0, 0);
        y.run(1);
        int behind = y.send(0, 3, 0, 0);
        y.run(1);
        y.pause(3, false);
        y.run(1);
        Checks.due("came first, goes first", 3, y.placeOf(ahead));
        Checks.due("it came to the end of the buffer", 1, y.placeOf(behind));
    }

    private static void marks() {
        Checks.sentence("Then each packet that came over a link to a switch that has at least 4 packets then, in all "
            + "buffers together, is marked.");
        for (int waiting = 2; waiting <= 4; waiting++) {
            Creditfabric x = Grids.grid(2, 2, 2, 0);
            x.pause(3, true);
            for (int i = 0; i < waiting; i++) {
                x.send(1, 3, i % 2, 0);
                x.run(1);
            }
            int packet = x.send(0, 1, 0, 0);
            x.run(1);
            Checks.due("it came to " + waiting, waiting >= 3, x.isMarked(packet));
            for (int i = 0; i < waiting; i++) {
                Checks.due("it came over no link", false, x.isMarked(i));
            }
        }
        Creditfabric x = Grids.grid(2, 2, 3, 0);
        x.pause(3, true);
        Grids.sendInARow(x, 3, 1, 3, 0);
        x.pause(3, false);
        int packet = x.send(0, 1, 0, 0);
        x.run(1);
        Checks.due("one of four has gone by then", false, x.isMarked(packet));
    }

    private static void nextTick() {
        Checks.sentence("Then the next tick begins.");
        Creditfabric x = Grids.grid(2, 2, 1, 0);
        for (int tick = 0; tick < 5; tick++) {
            Checks.due("the tick", tick, x.tick());
            x.run(1);
        }
    }

    // ---- slowing down

    /** Three packets wait at 1 for 3, so that each packet that comes to 1 from 0 is marked. */
    private static Creditfabric crowdAtOne() {
        Creditfabric x = Grids.grid(2, 2, 3, 0);
        x.pause(3, true);
        Grids.sendInARow(x, 3, 1, 3, 0);
        return x;
    }

    private static void gapBetweenSendings() {
        Checks.sentence("Each switch has a gap, 1 at first: it sends a packet only if it has not sent any, or the last "
            + "time was at least as many ticks ago.");
        Creditfabric x = crowdAtOne();
        Checks.due("1 at first", 1, x.gap(0));
        Checks.due("it has not sent any", 3, x.send(0, 1, 0, 0));
        Checks.state("0 ticks ago", () -> x.send(0, 1, 1, 0));
        x.run(2);
        Checks.due("gap", 2, x.gap(0));
        Checks.due("2 ticks ago", 4, x.send(0, 1, 0, 0));
        x.run(2);
        Checks.due("gap", 4, x.gap(0));
        x.run(1);
        Checks.state("3 ticks ago", () -> x.send(0, 1, 0, 0));
        Checks.due("another switch has a gap of its own", 5, x.send(2, 3, 0, 0));
        x.run(1);
        Checks.due("4 ticks ago", 6, x.send(0, 1, 0, 0));
    }

    private static void gapGrowsAndShrinks() {
        Checks.sentence("When a packet goes out, the gap of its source is doubled, but at most 16, if the packet is "
            + "marked; otherwise it becomes 1 less, but at least 1.");
        Creditfabric x = crowdAtOne();
        for (int due : new int[] {2, 4, 8, 16, 16}) {
            int before = x.gap(0);
            x.send(0, 1, 0, 0);
            x.run(1);
            Checks.due("marked, but not out", before, x.gap(0));
            x.run(1);
            Checks.due("doubled, but at most 16", due, x.gap(0));
            x.run(16);
        }
        for (int due = 15; due >= 0; due--) {
            x.send(0, 2, 0, 0);
            x.run(2);
            Checks.due("1 less, but at least 1", Math.max(1, due), x.gap(0));
            x.run(16);
        }
        Checks.due("not the gap of its goal", 1, x.gap(2));
    }

    /** Of two packets of 0 that go out in one tick, one is marked: at 1, the lower number, or at 2. */
    private static void risingNumbers() {
        Checks.sentence("(Packets that go out in one tick do so by rising numbers of switches.)");
        for (int crowded = 1; crowded <= 2; crowded++) {
            Creditfabric x = Grids.grid(2, 2, 3, 0);
            x.pause(3, true);
            Grids.sendInARow(x, 3, crowded, 3, 0);
            x.pause(1, true);
            x.pause(2, true);
            x.send(0, 3 - crowded, 0, 0);
            x.run(1);
            x.send(0, crowded, 1, 0);
            x.pause(1, false);
            x.pause(2, false);
            x.run(1);
            Checks.due("both out", 2, x.run(1));
            Checks.due("1 to 2 to 1, or 1 to 1 to 2", crowded == 1 ? 1 : 2, x.gap(0));
        }
    }

    // ---- waiting, and what hangs on what

    private static void waiting() {
        Checks.sentence("A buffer waits for another one, if its first packet wants a link, and the buffer of that link "
            + "and lane is full.");
        Creditfabric full = Grids.grid(2, 2, 1, 0);
        sendAll(full, CLOCKWISE, 1);
        full.run(1);
        Checks.due("each wants a link whose buffer is full", 4, full.circle());
        full.run(1);
        full.lose(0, Grids.EAST, 0);
        Checks.due("whatever the other lane has", 4, full.circle());
        Creditfabric free = Grids.grid(2, 2, 2, 0);
        sendAll(free, CLOCKWISE, 1);
        free.run(1);
        Checks.due("none is full", 0, free.circle());
        Creditfabric out = Grids.grid(2, 2, 1, 0);
        int[][] neighbours = {{0, 1, 0}, {1, 3, 0}, {3, 2, 0}, {2, 0, 0}};
        sendAll(out, neighbours, 1);
        out.run(1);
        Checks.due("each wants out", 0, out.circle());
        Creditfabric lanes = Grids.grid(2, 2, 1, 0);
        for (int i = 0; i < 4; i++) {
            lanes.send(CLOCKWISE[i][0], CLOCKWISE[i][1], i % 2, CLOCKWISE[i][2]);
        }
        lanes.run(1);
        Checks.due("the full ones are of the other lane", 0, lanes.circle());
    }

    private static void waitingCircle() {
        Checks.sentence("A waiting circle is a row of buffers each of which waits for the next one, and the last one for "
            + "the first one.");
        Creditfabric x = Grids.grid(2, 2, 1, 0);
        sendAll(x, CLOCKWISE, 0);
        Checks.due("none waits for an own input", 0, x.circle());
        x.run(1);
        Checks.due("four", 4, x.circle());
        sendAll(x, CLOCKWISE, 0);
        Checks.due("who waits for the circle is not on it", 4, x.circle());
        Creditfabric open = Grids.grid(2, 2, 1, 0);
        sendAll(open, CLOCKWISE, 0);
        open.pause(0, true);
        open.run(1);
        Checks.due("the last one waits for no first one", 0, open.circle());
    }

    private static void hanging() {
        Checks.sentence("What hangs on what: for each packet that is on its way, the buffer in which it is hangs on that "
            + "of the next link that it will take, that one on the next, and so on up to its goal, all in its lane.");
        Creditfabric x = Grids.grid(2, 2, 2, 0);
        sendAll(x, CLOCKWISE, 1);
        Checks.due("from the own input over two links each", true, x.mayCircle());
        x.run(1);
        Checks.due("from a link on to the next each", true, x.mayCircle());
        x.run(1);
        Checks.due("at their goals", false, x.mayCircle());
        Creditfabric lanes = Grids.grid(2, 2, 2, 0);
        for (int i = 0; i < 4; i++) {
            lanes.send(CLOCKWISE[i][0], CLOCKWISE[i][1], i / 3, CLOCKWISE[i][2]);
        }
        Checks.due("one of the four is in the other lane", false, lanes.mayCircle());
        Creditfabric edge = Grids.grid(3, 3, 1, 0);
        sendAll(edge, new int[][] {{0, 8, 0}, {8, 0, 0}, {5, 7, 1}}, 0);
        Checks.due("of the edge one corner is missing", false, edge.mayCircle());
        edge.send(3, 1, 0, 1);
        Checks.due("round the edge, two by four links", true, edge.mayCircle());
        Creditfabric second = Grids.grid(2, 2, 2, 0);
        sendAll(second, new int[][] {{0, 1, 0}, {1, 3, 0}, {3, 2, 0}, {2, 0, 0}}, 0);
        for (int its = 0; its < 4; its++) {
            second.pause(its, true);
        }
        second.run(1);
        Checks.due("each over one link", false, second.mayCircle());
        sendAll(second, CLOCKWISE, 0);
        Checks.due("those behind them in their buffers", true, second.mayCircle());
        Creditfabric out = Grids.grid(2, 2, 1, 0);
        sendAll(out, new int[][] {{0, 3, 0}, {1, 2, 1}, {3, 0, 0}}, 1);
        Checks.due("three go out", 3, out.run(10));
        out.send(2, 1, 1, 1);
        Checks.due("what went out is on its way no more", false, out.mayCircle());
    }

    // ---- exceptions, and the constant

    private static void refusedCalls() {
        Checks.sentence("A call that throws an exception changes nothing.");
        Creditfabric x = Grids.grid(2, 2, 1, 1);
        sendAll(x, CLOCKWISE, 0);
        x.run(1);
        String before = Questions.all(x, 2, 2);
        List<Checks.Call> calls = new ArrayList<>();
        calls.add(() -> x.begin(2, 2, 1, 4));
        calls.add(() -> x.send(0, 4, 0, 0));
        calls.add(() -> x.send(0, 1, 0, 2));
        calls.add(() -> x.run(51));
        calls.add(() -> x.pause(4, true));
        calls.add(() -> x.lose(0, Grids.WEST, 0));
        calls.add(() -> x.lose(0, Grids.EAST, 2));
        calls.add(() -> x.lose(0, Grids.EAST, 0));
        calls.add(() -> x.credits(0, Grids.NORTH, 0));
        calls.add(() -> x.inBuffer(0, 5, 0));
        calls.add(() -> x.gap(-1));
        calls.add(() -> x.placeOf(4));
        calls.add(() -> x.hops(4));
        calls.add(() -> x.isMarked(4));
        calls.add(() -> x.wants(4));
        for (Checks.Call call : calls) {
            Checks.due("it throws", true, isRefused(call));
        }
        Checks.due("as before", before, Questions.all(x, 2, 2));
    }

    private static boolean isRefused(Checks.Call call) {
        try {
            call.go();
            return false;
        } catch (IndexOutOfBoundsException | IllegalArgumentException | IllegalStateException e) {
            return true;
        }
    }

    private static void whichException() {
        Checks.sentence("If several apply, the one that the throws clause names first is thrown.");
        Creditfabric x = Grids.grid(2, 2, 1, 0);
        x.send(0, 1, 0, 0);
        x.lose(0, Grids.EAST, 0);
        Checks.index("send: no such switch, no such lane, a full buffer", () -> x.send(0, 4, 2, 0));
        Checks.index("send: both are the same and no such switch", () -> x.send(4, 4, 0, 0));
        Checks.argument("send: no such lane, a full buffer", () -> x.send(0, 1, 2, 0));
        Checks.argument("send: both are the same, a full buffer", () -> x.send(0, 0, 0, 0));
        Checks.argument("send: no such mode, a full buffer", () -> x.send(0, 1, 0, 2));
        Checks.index("lose: no link, no such lane", () -> x.lose(0, Grids.WEST, 2));
        Checks.argument("lose: no such lane, no credit", () -> x.lose(0, Grids.EAST, -1));
        Checks.index("credits: no link, no such lane", () -> x.credits(0, Grids.WEST, 2));
        Checks.index("inBuffer: no such switch, no such input", () -> x.inBuffer(4, 5, 2));
    }

    private static void none() {
        Checks.sentence("The constants: NONE = -1: There is none; out.");
        Checks.due("NONE", -1, Creditfabric.NONE);
        Creditfabric x = new Creditfabric();
        x.send(0, 1, 0, 0);
        x.run(2);
        Checks.due("the place of one that is out", Creditfabric.NONE, x.placeOf(0));
        Checks.due("the output that one wants that is out", Creditfabric.NONE, x.wants(0));
    }
}
