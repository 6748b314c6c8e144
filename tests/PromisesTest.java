/** Each promise of the document on its own: ordinary inputs, the edges that it names, and wrong inputs. */
public final class PromisesTest {
    private static final Class<IndexOutOfBoundsException> INDEX = IndexOutOfBoundsException.class;
    private static final Class<IllegalArgumentException> ARGUMENT = IllegalArgumentException.class;
    private static final Class<IllegalStateException> STATE = IllegalStateException.class;
    private static final int[] FAR = {-1, Integer.MIN_VALUE, Integer.MAX_VALUE};

    private PromisesTest() {
    }

    public static void main(String[] args) {
        aNewObject();
        beginTellsTheSwitches();
        beginForgetsAll();
        beginRefuses();
        sendPutsIntoTheOwnInput();
        sendRefuses();
        sendNamesTheFirstThatApplies();
        sendRefusesTheEightyFirst();
        runAnswersWhatWentOut();
        runRefuses();
        allGoAtOnce();
        turnsAreTaken();
        outputsHaveTurnsOfTheirOwn();
        aTurnSkipsWhatCannotGo();
        lanesDoNotBlockOneAnother();
        pauseStopsLinksInto();
        pauseRefuses();
        loseTakesACredit();
        loseRefuses();
        recoverLeavesTheRest();
        lostCreditsStopPackets();
        tickCounts();
        creditsReturnLate();
        creditsRefuse();
        inBufferCounts();
        inBufferRefuses();
        gapDoublesAndShrinks();
        gapRefuses();
        packetsAreAsked();
        packetsAreRefused();
        crowdsMark();
        modesChooseTheWay();
        waitingCircles();
        whatHangsOnWhat();
        Checks.due("NONE", -1, Creditfabric.NONE);
        Checks.finish();
    }

    private static Creditfabric grid(int columns, int rows, int room, int delay) {
        Creditfabric x = new Creditfabric();
        Checks.due("begin", columns * rows, x.begin(columns, rows, room, delay));
        return x;
    }

    // ---- promise 1

    private static void aNewObject() {
        Creditfabric x = new Creditfabric();
        Checks.due("new: tick", 0, x.tick());
        Checks.due("new: packets", 0, x.packets());
        Checks.due("new: arrived", 0, x.arrived());
        Checks.due("new: circle", 0, x.circle());
        Checks.due("new: mayCircle", false, x.mayCircle());
        Checks.due("new: gap of the last switch", 1, x.gap(3));
        Checks.throwing("new: gap(4)", INDEX, () -> x.gap(4));
        Checks.due("new: a link to the east", 1, x.credits(0, 0, 0));
        Checks.due("new: a link to the south", 1, x.credits(0, 1, 1));
        Checks.throwing("new: two columns", INDEX, () -> x.credits(1, 0, 0));
        Checks.throwing("new: two rows", INDEX, () -> x.credits(2, 1, 0));
        Checks.due("new: paused", false, x.pause(0, false));
        Checks.due("new: send", 0, x.send(0, 1, 0, 0));
        Checks.due("new: run", 0, x.run(1));
        Checks.due("new: credit taken", 0, x.credits(0, 0, 0));
        Checks.due("new: run out", 1, x.run(1));
        Checks.due("new: credit on its way", 0, x.credits(0, 0, 0));
        Checks.due("new: run idle", 0, x.run(1));
        Checks.due("new: delay 0", 1, x.credits(0, 0, 0));
    }

    // ---- promise 2

    private static void beginTellsTheSwitches() {
        for (int columns = 2; columns <= 4; columns++) {
            for (int rows = 2; rows <= 4; rows++) {
                Creditfabric x = grid(columns, rows, 2, 1);
                int last = columns * rows - 1;
                Checks.due("begin: gap of the last switch", 1, x.gap(last));
                Checks.throwing("begin: gap behind the last", INDEX, () -> x.gap(last + 1));
                Checks.due("begin: credits", 2, x.credits(last, 3, 1));
                int corner = columns - 1;
                Checks.throwing("begin: no link east", INDEX, () -> x.credits(corner, 0, 0));
                Checks.due("begin: link south of the corner", 2, x.credits(corner, 1, 0));
            }
        }
    }

    private static void beginForgetsAll() {
        Creditfabric x = grid(2, 2, 3, 3);
        x.pause(3, true);
        for (int i = 0; i < 3; i++) {
            x.send(1, 3, 0, 0);
            x.run(1);
        }
        x.send(0, 1, 0, 0);
        x.lose(2, 0, 1);
        x.run(2);
        Checks.due("before begin: gap", 2, x.gap(0));
        Checks.due("before begin: arrived", 1, x.arrived());
        Checks.due("begin anew", 4, x.begin(2, 2, 3, 3));
        Checks.due("anew: tick", 0, x.tick());
        Checks.due("anew: packets", 0, x.packets());
        Checks.due("anew: arrived", 0, x.arrived());
        Checks.due("anew: gap", 1, x.gap(0));
        Checks.due("anew: credits", 3, x.credits(2, 0, 1));
        Checks.due("anew: own input", 0, x.inBuffer(1, 4, 0));
        Checks.throwing("anew: no packet", INDEX, () -> x.placeOf(0));
        Checks.due("anew: not paused", false, x.pause(3, false));
        Checks.due("anew: nothing lost", 0, x.recover());
        Checks.due("anew: nothing on its way", 0, x.run(6));
        Checks.due("anew: no credit came from before", 3, x.credits(0, 0, 0));
        Checks.due("anew: numbers from 0 on", 0, x.send(0, 1, 0, 0));
        Checks.due("anew: hops", 0, x.hops(0));
        Checks.due("anew: mark", false, x.isMarked(0));
        beginForgetsTurns();
    }

    /** After a turn of ring place 0 the next one begins behind it; begin sets that back. */
    private static void beginForgetsTurns() {
        Creditfabric x = grid(2, 2, 3, 0);
        x.send(0, 1, 0, 0);
        x.run(2);
        x.begin(2, 2, 3, 0);
        x.send(0, 1, 0, 0);
        x.send(3, 1, 0, 0);
        x.run(2);
        Checks.due("anew: turns, the first", Creditfabric.NONE, x.placeOf(0));
        Checks.due("anew: turns, the second", 1, x.placeOf(1));
    }

    private static void beginRefuses() {
        Creditfabric x = grid(3, 2, 2, 1);
        x.send(0, 5, 1, 1);
        int[][] wrong = {{1, 2, 1, 0}, {5, 2, 1, 0}, {2, 1, 1, 0}, {2, 5, 1, 0}, {2, 2, 0, 0}, {2, 2, 4, 0},
            {2, 2, 1, -1}, {2, 2, 1, 4}};
        for (int[] w : wrong) {
            Checks.throwing("begin out of range", ARGUMENT, () -> x.begin(w[0], w[1], w[2], w[3]));
        }
        for (int far : FAR) {
            Checks.throwing("begin far columns", ARGUMENT, () -> x.begin(far, 2, 1, 0));
            Checks.throwing("begin far rows", ARGUMENT, () -> x.begin(2, far, 1, 0));
            Checks.throwing("begin far room", ARGUMENT, () -> x.begin(2, 2, far, 0));
            Checks.throwing("begin far delay", ARGUMENT, () -> x.begin(2, 2, 1, far));
        }
        Checks.due("begin refused: packets", 1, x.packets());
        Checks.due("begin refused: last switch", 1, x.gap(5));
        Checks.due("begin refused: credits", 2, x.credits(0, 0, 0));
    }

    // ---- promise 3

    private static void sendPutsIntoTheOwnInput() {
        Creditfabric x = grid(2, 2, 2, 0);
        Checks.due("send: first", 0, x.send(0, 1, 1, 0));
        Checks.due("send: second", 1, x.send(3, 1, 0, 0));
        Checks.due("send: packets", 2, x.packets());
        Checks.due("send: own input, lane 1", 1, x.inBuffer(0, 4, 1));
        Checks.due("send: own input, lane 0", 0, x.inBuffer(0, 4, 0));
        Checks.due("send: place", 0, x.placeOf(0));
        Checks.due("send: place of the second", 3, x.placeOf(1));
    }

    private static void sendRefuses() {
        Creditfabric x = grid(2, 2, 1, 0);
        for (int far : new int[] {4, -1, Integer.MIN_VALUE, Integer.MAX_VALUE}) {
            Checks.throwing("send from no switch", INDEX, () -> x.send(far, 0, 0, 0));
            Checks.throwing("send to no switch", INDEX, () -> x.send(0, far, 0, 0));
        }
        Checks.throwing("send to itself", ARGUMENT, () -> x.send(2, 2, 0, 0));
        for (int far : new int[] {2, -1, Integer.MIN_VALUE, Integer.MAX_VALUE}) {
            Checks.throwing("send in no lane", ARGUMENT, () -> x.send(0, 1, far, 0));
            Checks.throwing("send by no mode", ARGUMENT, () -> x.send(0, 1, 0, far));
        }
        Checks.due("send refused: packets", 0, x.packets());
        x.pause(1, true);
        Checks.due("send", 0, x.send(0, 1, 0, 0));
        Checks.throwing("send twice a tick, other lane", STATE, () -> x.send(0, 1, 1, 0));
        x.run(1);
        Checks.throwing("send into a full buffer", STATE, () -> x.send(0, 1, 0, 0));
        Checks.due("send refused: packets still", 1, x.packets());
        Checks.due("send: a refused one was no sending", 1, x.send(0, 1, 1, 0));
    }

    private static void sendNamesTheFirstThatApplies() {
        Creditfabric x = grid(2, 2, 1, 0);
        x.send(0, 1, 0, 0);
        Checks.throwing("send: switch before lane", INDEX, () -> x.send(0, 4, 7, 7));
        Checks.throwing("send: switch before sameness", INDEX, () -> x.send(9, 9, 0, 0));
        Checks.throwing("send: lane before fullness", ARGUMENT, () -> x.send(0, 1, 2, 0));
        Checks.throwing("send: mode before fullness", ARGUMENT, () -> x.send(0, 1, 0, 2));
        Checks.throwing("send: sameness before fullness", ARGUMENT, () -> x.send(0, 0, 0, 0));
    }

    private static void sendRefusesTheEightyFirst() {
        Creditfabric x = grid(2, 2, 3, 0);
        for (int i = 0; i < 80; i++) {
            Checks.due("send: number", i, x.send(i % 4, (i + 1) % 4, i / 4 % 2, 0));
            if (i % 4 == 3) {
                x.run(4);
            }
        }
        Checks.due("send: 80 packets", 80, x.packets());
        Checks.due("send: all went out", 80, x.arrived());
        Checks.throwing("send: the 81st", STATE, () -> x.send(0, 1, 0, 0));
        Checks.due("send: the 80th", Creditfabric.NONE, x.placeOf(79));
        Checks.throwing("send: no 81st", INDEX, () -> x.placeOf(80));
        x.begin(2, 2, 3, 0);
        Checks.due("send: from 0 on again", 0, x.send(0, 1, 0, 0));
    }

    // ---- promise 4, and what a tick does

    private static void runAnswersWhatWentOut() {
        Creditfabric x = grid(4, 4, 1, 0);
        x.send(0, 1, 0, 0);
        x.send(15, 0, 1, 1);
        Checks.due("run: one out", 1, x.run(3));
        Checks.due("run: not yet", 0, x.run(3));
        Checks.due("run: the other out", 1, x.run(1));
        Checks.due("run: none left", 0, x.run(50));
        Checks.due("run: arrived", 2, x.arrived());
    }

    private static void runRefuses() {
        Creditfabric x = new Creditfabric();
        x.send(0, 1, 0, 0);
        for (int ticks : new int[] {0, 51, -1, Integer.MIN_VALUE, Integer.MAX_VALUE}) {
            Checks.throwing("run out of range", ARGUMENT, () -> x.run(ticks));
        }
        Checks.due("run refused: tick", 0, x.tick());
        Checks.due("run refused: place", 0, x.placeOf(0));
        Checks.due("run 1", 0, x.run(1));
        Checks.due("run 50", 1, x.run(50));
    }

    /** No packet goes over two links in a tick, whichever way the numbers of the switches run. */
    private static void allGoAtOnce() {
        Creditfabric x = grid(4, 2, 1, 0);
        x.send(0, 3, 0, 0);
        x.send(7, 4, 0, 0);
        x.run(1);
        Checks.due("one link a tick, eastward", 1, x.placeOf(0));
        Checks.due("one link a tick, westward", 6, x.placeOf(1));
        x.run(1);
        Checks.due("two links in two ticks, eastward", 2, x.placeOf(0));
        Checks.due("two links in two ticks, westward", 5, x.placeOf(1));
        x.run(2);
        Checks.due("out, eastward", Creditfabric.NONE, x.placeOf(0));
        Checks.due("out, westward", Creditfabric.NONE, x.placeOf(1));
    }

    /** At switch 1 packets come from the west, at ring place 0, and from the south, at ring place 6. */
    private static void turnsAreTaken() {
        Creditfabric x = grid(2, 2, 3, 0);
        x.send(0, 1, 0, 0);
        x.run(1);
        x.send(0, 1, 0, 0);
        x.send(3, 1, 0, 0);
        x.run(1);
        Checks.due("turn: the first went out", Creditfabric.NONE, x.placeOf(0));
        x.run(1);
        Checks.due("turn: behind ring place 0 comes 6", Creditfabric.NONE, x.placeOf(2));
        Checks.due("turn: ring place 0 waits", 1, x.placeOf(1));
        x.send(3, 1, 0, 0);
        x.run(1);
        Checks.due("turn: behind ring place 6 comes 0", Creditfabric.NONE, x.placeOf(1));
        x.send(0, 1, 1, 0);
        x.run(1);
        Checks.due("turn: alone", Creditfabric.NONE, x.placeOf(3));
        x.run(1);
        Checks.due("turn: lane 1 too", Creditfabric.NONE, x.placeOf(4));
        Checks.due("turn: all out", 5, x.arrived());
    }

    /** What goes out at switch 1 does not move the turn of its link to the south. */
    private static void outputsHaveTurnsOfTheirOwn() {
        Creditfabric x = grid(2, 2, 3, 0);
        x.send(3, 1, 0, 0);
        x.run(2);
        x.send(0, 3, 0, 0);
        x.run(1);
        x.send(1, 3, 0, 0);
        x.run(1);
        Checks.due("turn of the link: ring place 0 first", 3, x.placeOf(1));
        Checks.due("turn of the link: ring place 8 waits", 1, x.placeOf(2));
        x.run(1);
        Checks.due("turn of the link: then ring place 8", 3, x.placeOf(2));
    }

    /** Lane 0 of the link has no credit, so lane 1 goes, though lane 0 comes first in the ring. */
    private static void aTurnSkipsWhatCannotGo() {
        Creditfabric x = grid(2, 2, 1, 0);
        x.lose(0, 0, 0);
        x.send(0, 1, 0, 0);
        x.run(1);
        x.send(0, 1, 1, 0);
        x.run(1);
        Checks.due("skipped: lane 0", 0, x.placeOf(0));
        Checks.due("taken: lane 1", 1, x.placeOf(1));
        x.recover();
        x.run(1);
        Checks.due("recovered: lane 0", 1, x.placeOf(0));
    }

    private static void lanesDoNotBlockOneAnother() {
        Creditfabric x = grid(2, 2, 2, 0);
        x.pause(3, true);
        x.send(1, 3, 0, 0);
        x.run(1);
        x.send(1, 0, 0, 0);
        x.run(1);
        Checks.due("behind a waiting packet", 1, x.placeOf(1));
        x.send(1, 0, 1, 0);
        x.run(1);
        Checks.due("beside a waiting packet", 0, x.placeOf(2));
    }

    // ---- promise 5

    private static void pauseStopsLinksInto() {
        Creditfabric x = grid(2, 2, 1, 0);
        x.send(0, 1, 0, 0);
        x.run(1);
        Checks.due("pause: was not", false, x.pause(1, true));
        Checks.due("pause: was already", true, x.pause(1, true));
        Checks.due("paused: goes out all the same", 1, x.run(1));
        x.send(0, 1, 1, 0);
        x.send(1, 3, 0, 0);
        Checks.due("paused: sends all the same", 1, x.run(10));
        Checks.due("paused: none comes", 0, x.placeOf(1));
        Checks.due("paused: its own went out", Creditfabric.NONE, x.placeOf(2));
        Checks.due("pause no more: was", true, x.pause(1, false));
        Checks.due("pause no more: was not", false, x.pause(1, false));
        Checks.due("not paused: comes and goes out", 1, x.run(2));
    }

    private static void pauseRefuses() {
        Creditfabric x = new Creditfabric();
        for (int far : new int[] {4, -1, Integer.MIN_VALUE, Integer.MAX_VALUE}) {
            Checks.throwing("pause no switch", INDEX, () -> x.pause(far, true));
        }
        Checks.due("pause: each on its own", false, x.pause(3, true));
        Checks.due("pause: another", false, x.pause(2, false));
        Checks.due("pause: the same", true, x.pause(3, true));
    }

    // ---- promises 6 and 7

    private static void loseTakesACredit() {
        Creditfabric x = grid(3, 3, 3, 0);
        Checks.due("lose: two left", 2, x.lose(4, 3, 1));
        Checks.due("lose: one left", 1, x.lose(4, 3, 1));
        Checks.due("lose: none left", 0, x.lose(4, 3, 1));
        Checks.throwing("lose: none there", STATE, () -> x.lose(4, 3, 1));
        Checks.due("lose: the other lane", 3, x.credits(4, 3, 0));
        Checks.due("lose: the link back", 3, x.credits(1, 1, 1));
        Checks.due("lose: another link", 2, x.lose(0, 0, 0));
        Checks.due("recover", 4, x.recover());
        Checks.due("recovered", 3, x.credits(4, 3, 1));
        Checks.due("recover: none lost", 0, x.recover());
    }

    private static void loseRefuses() {
        Creditfabric x = grid(3, 3, 1, 0);
        for (int far : new int[] {9, -1, Integer.MIN_VALUE, Integer.MAX_VALUE}) {
            Checks.throwing("lose at no switch", INDEX, () -> x.lose(far, 0, 0));
        }
        for (int far : new int[] {4, -1, Integer.MIN_VALUE, Integer.MAX_VALUE}) {
            Checks.throwing("lose in no direction", INDEX, () -> x.lose(4, far, 0));
        }
        for (int far : new int[] {2, -1, Integer.MIN_VALUE, Integer.MAX_VALUE}) {
            Checks.throwing("lose in no lane", ARGUMENT, () -> x.lose(4, 0, far));
        }
        int[][] edges = {{2, 0}, {5, 0}, {6, 1}, {8, 1}, {0, 2}, {3, 2}, {0, 3}, {2, 3}};
        for (int[] edge : edges) {
            Checks.throwing("lose over the edge", INDEX, () -> x.lose(edge[0], edge[1], 0));
        }
        Checks.throwing("lose: link before lane", INDEX, () -> x.lose(2, 0, 5));
        x.lose(4, 0, 0);
        Checks.throwing("lose: lane before credit", ARGUMENT, () -> x.lose(4, 0, 2));
        Checks.due("lose refused: nothing more lost", 1, x.recover());
    }

    /** Of room 3, one is in the buffer, one on its way back, one lost. */
    private static void recoverLeavesTheRest() {
        Creditfabric x = grid(2, 2, 3, 3);
        x.send(0, 1, 0, 0);
        x.run(1);
        x.send(0, 1, 0, 0);
        Checks.due("lose one of two", 1, x.lose(0, 0, 0));
        x.run(1);
        Checks.due("in the buffer", 1, x.inBuffer(1, 0, 0));
        Checks.due("none there", 0, x.credits(0, 0, 0));
        Checks.due("recover one", 1, x.recover());
        Checks.due("one there", 1, x.credits(0, 0, 0));
        x.run(3);
        Checks.due("not yet back", 1, x.credits(0, 0, 0));
        x.run(1);
        Checks.due("the first is back", 2, x.credits(0, 0, 0));
        x.run(1);
        Checks.due("the second is back", 3, x.credits(0, 0, 0));
        Checks.due("recover none", 0, x.recover());
    }

    private static void lostCreditsStopPackets() {
        Creditfabric x = grid(2, 2, 1, 0);
        x.lose(0, 0, 0);
        x.send(0, 1, 0, 0);
        Checks.due("without a credit none goes", 0, x.run(50));
        Checks.due("without a credit it stays", 0, x.placeOf(0));
        Checks.due("recover it", 1, x.recover());
        Checks.due("with a credit it goes", 1, x.run(2));
    }

    // ---- promises 8 and 11

    private static void tickCounts() {
        Creditfabric x = new Creditfabric();
        x.run(1);
        Checks.due("tick after 1", 1, x.tick());
        x.run(50);
        Checks.due("tick after 51", 51, x.tick());
        x.begin(2, 2, 1, 0);
        Checks.due("tick anew", 0, x.tick());
    }

    private static void creditsReturnLate() {
        for (int delay = 0; delay <= 3; delay++) {
            Creditfabric x = grid(2, 2, 2, delay);
            x.send(0, 1, 1, 0);
            Checks.due("credits before", 2, x.credits(0, 0, 1));
            x.run(1);
            Checks.due("credit taken", 1, x.credits(0, 0, 1));
            Checks.due("credit of the other lane", 2, x.credits(0, 0, 0));
            x.run(1 + delay);
            Checks.due("credit not yet back", 1, x.credits(0, 0, 1));
            x.run(1);
            Checks.due("credit back", 2, x.credits(0, 0, 1));
            x.run(8);
            Checks.due("credit back but once", 2, x.credits(0, 0, 1));
        }
        creditsOfATickServeInIt();
    }

    /** A credit that comes back at the beginning of a tick lets a packet go in that tick. */
    private static void creditsOfATickServeInIt() {
        Creditfabric x = grid(2, 2, 1, 1);
        x.send(0, 1, 0, 0);
        x.run(1);
        x.send(0, 1, 0, 0);
        x.run(2);
        Checks.due("without its credit", 0, x.placeOf(1));
        x.run(1);
        Checks.due("with the credit of this tick", 1, x.placeOf(1));
    }

    private static void creditsRefuse() {
        Creditfabric x = grid(2, 3, 1, 0);
        for (int far : new int[] {6, -1, Integer.MIN_VALUE, Integer.MAX_VALUE}) {
            Checks.throwing("credits at no switch", INDEX, () -> x.credits(far, 0, 0));
        }
        for (int far : new int[] {4, -1, Integer.MIN_VALUE, Integer.MAX_VALUE}) {
            Checks.throwing("credits in no direction", INDEX, () -> x.credits(2, far, 0));
        }
        for (int far : new int[] {2, -1, Integer.MIN_VALUE, Integer.MAX_VALUE}) {
            Checks.throwing("credits in no lane", ARGUMENT, () -> x.credits(2, 0, far));
        }
        Checks.throwing("credits over the edge", INDEX, () -> x.credits(2, 2, 0));
        Checks.throwing("credits: link before lane", INDEX, () -> x.credits(2, 2, 9));
    }

    // ---- promise 12

    private static void inBufferCounts() {
        Creditfabric x = grid(3, 3, 2, 0);
        int[] sources = {3, 1, 5, 7};
        for (int direction = 0; direction < 4; direction++) {
            x.send(sources[direction], 4, direction % 2, 0);
        }
        x.send(4, 0, 0, 0);
        Checks.due("own input", 1, x.inBuffer(4, 4, 0));
        x.pause(3, true);
        x.run(1);
        for (int direction = 0; direction < 4; direction++) {
            Checks.due("input " + direction, 1, x.inBuffer(4, direction, direction % 2));
            Checks.due("input, other lane " + direction, 0, x.inBuffer(4, direction, 1 - direction % 2));
        }
        Checks.due("own input still", 1, x.inBuffer(4, 4, 0));
        for (int lane = 0; lane < 2; lane++) {
            Checks.due("no link from the west", 0, x.inBuffer(0, 0, lane));
            Checks.due("no link from the north", 0, x.inBuffer(0, 1, lane));
            Checks.due("no link from the east", 0, x.inBuffer(8, 2, lane));
            Checks.due("no link from the south", 0, x.inBuffer(8, 3, lane));
        }
    }

    private static void inBufferRefuses() {
        Creditfabric x = new Creditfabric();
        for (int far : new int[] {4, -1, Integer.MIN_VALUE, Integer.MAX_VALUE}) {
            Checks.throwing("inBuffer at no switch", INDEX, () -> x.inBuffer(far, 0, 0));
        }
        for (int far : new int[] {5, -1, Integer.MIN_VALUE, Integer.MAX_VALUE}) {
            Checks.throwing("inBuffer at no input", ARGUMENT, () -> x.inBuffer(0, far, 0));
        }
        for (int far : new int[] {2, -1, Integer.MIN_VALUE, Integer.MAX_VALUE}) {
            Checks.throwing("inBuffer in no lane", ARGUMENT, () -> x.inBuffer(0, 0, far));
        }
        Checks.throwing("inBuffer: switch before input", INDEX, () -> x.inBuffer(4, 5, 2));
        Checks.throwing("inBuffer: lane without a link", ARGUMENT, () -> x.inBuffer(0, 0, 2));
    }

    // ---- promise 13

    /** Three packets that wait at switch 1 make a crowd of four there with each packet from switch 0. */
    private static Creditfabric crowdAtOne() {
        Creditfabric x = grid(2, 2, 3, 0);
        x.pause(3, true);
        for (int i = 0; i < 3; i++) {
            x.send(1, 3, 0, 0);
            x.run(1);
        }
        return x;
    }

    private static void gapDoublesAndShrinks() {
        Creditfabric x = crowdAtOne();
        int gap = 1;
        for (int packet = 3; packet < 9; packet++) {
            Checks.due("send after the gap", packet, x.send(0, 1, 0, 0));
            Checks.due("run", 1, x.run(2));
            Checks.due("marked", true, x.isMarked(packet));
            gap = gap < 16 ? 2 * gap : 16;
            Checks.due("gap doubled", gap, x.gap(0));
            Checks.due("gap of another", 1, x.gap(1));
            if (gap > 2) {
                x.run(gap - 3 > 0 ? gap - 3 : 1);
                Checks.throwing("send before the gap is over", STATE, () -> x.send(0, 1, 0, 0));
                x.run(1);
            }
        }
        x.pause(3, false);
        x.run(20);
        for (int want = 15; want >= -1; want--) {
            x.send(0, 1, 0, 0);
            Checks.due("run unmarked", 1, x.run(2));
            Checks.due("gap shrunk", want > 1 ? want : 1, x.gap(0));
            x.run(16);
        }
    }

    private static void gapRefuses() {
        Creditfabric x = new Creditfabric();
        for (int far : new int[] {4, -1, Integer.MIN_VALUE, Integer.MAX_VALUE}) {
            Checks.throwing("gap of no switch", INDEX, () -> x.gap(far));
        }
        Checks.due("gap", 1, x.gap(0));
    }

    // ---- promises 9, 10, 14 to 17

    private static void packetsAreAsked() {
        Creditfabric x = grid(3, 3, 1, 0);
        x.send(0, 8, 0, 0);
        int[] places = {0, 1, 2, 5, 8};
        int[] outputs = {0, 0, 1, 1, 4};
        for (int hop = 0; hop < 5; hop++) {
            Checks.due("placeOf", places[hop], x.placeOf(0));
            Checks.due("hops", hop, x.hops(0));
            Checks.due("wants", outputs[hop], x.wants(0));
            Checks.due("isMarked", false, x.isMarked(0));
            Checks.due("arrived", 0, x.arrived());
            x.run(1);
        }
        Checks.due("placeOf out", Creditfabric.NONE, x.placeOf(0));
        Checks.due("hops out", 4, x.hops(0));
        Checks.due("wants out", Creditfabric.NONE, x.wants(0));
        Checks.due("arrived out", 1, x.arrived());
        Checks.due("packets out", 1, x.packets());
    }

    private static void packetsAreRefused() {
        Creditfabric x = new Creditfabric();
        for (int far : new int[] {0, 80, -1, Integer.MIN_VALUE, Integer.MAX_VALUE}) {
            Checks.throwing("placeOf no packet", INDEX, () -> x.placeOf(far));
            Checks.throwing("hops of no packet", INDEX, () -> x.hops(far));
            Checks.throwing("isMarked no packet", INDEX, () -> x.isMarked(far));
            Checks.throwing("wants of no packet", INDEX, () -> x.wants(far));
        }
        x.send(0, 1, 0, 0);
        Checks.due("placeOf the packet", 0, x.placeOf(0));
        Checks.throwing("placeOf the next", INDEX, () -> x.placeOf(1));
        Checks.throwing("hops of the next", INDEX, () -> x.hops(1));
        Checks.throwing("isMarked the next", INDEX, () -> x.isMarked(1));
        Checks.throwing("wants of the next", INDEX, () -> x.wants(1));
    }

    private static void crowdsMark() {
        Creditfabric x = crowdAtOne();
        x.send(0, 1, 1, 0);
        x.run(1);
        Checks.due("fourth: marked", true, x.isMarked(3));
        Checks.due("it came over no link", false, x.isMarked(0));
        x.run(1);
        Checks.due("marked still when out", true, x.isMarked(3));
        Creditfabric y = grid(2, 2, 3, 0);
        y.pause(3, true);
        y.send(1, 3, 0, 0);
        y.run(1);
        y.send(1, 3, 0, 0);
        y.run(1);
        y.send(0, 1, 0, 0);
        y.run(1);
        Checks.due("third: not marked", false, y.isMarked(2));
        y.send(0, 1, 0, 0);
        y.run(1);
        Checks.due("what leaves counts no more", false, y.isMarked(3));
        y.send(0, 1, 1, 0);
        y.send(1, 3, 1, 0);
        y.run(1);
        Checks.due("what leaves in the tick counts no more, the own input does", true, y.isMarked(4));
        Checks.due("no packet is marked later", false, y.isMarked(3));
    }

    private static void modesChooseTheWay() {
        Creditfabric x = grid(3, 3, 1, 0);
        int[][] ways = {{4, 0, 2, 3}, {4, 2, 0, 3}, {4, 6, 2, 1}, {4, 8, 0, 1}, {4, 1, 3, 3}, {4, 3, 2, 2}, {4, 5, 0, 0},
            {4, 7, 1, 1}};
        for (int[] way : ways) {
            for (int mode = 0; mode < 2; mode++) {
                int packet = x.send(way[0], way[1], 0, mode);
                Checks.due("wants to " + way[1] + " by mode " + mode, way[2 + mode], x.wants(packet));
                x.run(8);
                Checks.due("arrives at " + way[1], Creditfabric.NONE, x.placeOf(packet));
            }
        }
    }

    // ---- promises 18 and 19

    private static Creditfabric fullRing(int lane) {
        Creditfabric x = grid(2, 2, 1, 0);
        sendRound(x, lane);
        return x;
    }

    /** Four packets, each to the opposite switch and all clockwise. */
    private static void sendRound(Creditfabric x, int lane) {
        x.send(0, 3, lane, 0);
        x.send(1, 2, lane, 1);
        x.send(3, 0, lane, 0);
        x.send(2, 1, lane, 1);
    }

    private static void waitingCircles() {
        Creditfabric x = fullRing(1);
        Checks.due("own inputs are on no circle", 0, x.circle());
        x.run(1);
        Checks.due("four wait for one another", 4, x.circle());
        sendRound(x, 1);
        Checks.due("who waits for a circle is not on it", 4, x.circle());
        Checks.due("they stay", 0, x.run(50));
        Creditfabric y = grid(2, 2, 2, 0);
        sendRound(y, 0);
        y.run(1);
        Checks.due("with room left none waits", 0, y.circle());
        Checks.due("with room left all go out", 4, y.run(2));
        Creditfabric z = fullRing(0);
        z.lose(0, 0, 0);
        z.run(1);
        Checks.due("an open ring", 0, z.circle());
        Creditfabric w = fullRing(0);
        w.run(1);
        w.pause(0, true);
        Checks.due("pauses do not matter to a circle", 4, w.circle());
    }

    private static void whatHangsOnWhat() {
        Creditfabric x = fullRing(0);
        Checks.due("four round a ring", true, x.mayCircle());
        Creditfabric three = grid(2, 2, 1, 0);
        three.send(0, 3, 0, 0);
        three.send(1, 2, 0, 1);
        three.send(3, 0, 0, 0);
        Checks.due("three of a ring", false, three.mayCircle());
        three.send(2, 1, 1, 1);
        Checks.due("the fourth in the other lane", false, three.mayCircle());
        Creditfabric rows = grid(2, 2, 2, 0);
        for (int source = 0; source < 4; source++) {
            rows.send(source, 3 - source, 0, 0);
        }
        Checks.due("all along rows first", false, rows.mayCircle());
        Creditfabric y = grid(2, 2, 2, 0);
        sendRound(y, 0);
        Checks.due("with room it hangs as well", true, y.mayCircle());
        y.run(1);
        Checks.due("from the link on each hangs on the next", true, y.mayCircle());
        y.run(1);
        Checks.due("at their goals they hang on none", false, y.mayCircle());
        y.run(1);
        Checks.due("those that went out hang on none", false, y.mayCircle());
        Checks.due("all went out", 4, y.arrived());
    }
}
