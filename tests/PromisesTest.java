/**
 * The promises of the document, from promise 1 to promise 19: each sentence of theirs, quoted whole behind the name of
 * its call, and what would go wrong without it. The sentences ahead of them are in TermsTest, edges in the other tests.
 */
public final class PromisesTest {
    private static final int FARTHEST_DOWN = Integer.MIN_VALUE;
    private static final int FARTHEST_UP = Integer.MAX_VALUE;
    private static final int[] NO_LANES = {-1, 2, FARTHEST_DOWN, FARTHEST_UP};

    // On 2 x 2: source, goal, mode of packets that go clockwise, each round one corner.
    private static final int[][] CLOCKWISE = {{0, 3, 0}, {1, 2, 1}, {3, 0, 0}, {2, 1, 1}};

    private PromisesTest() {
    }

    public static void main(String[] args) {
        aNewObject();
        beginBeginsAnew();
        beginForgetsTurns();
        beginTakesItsRanges();
        beginAnswersTheSwitches();
        beginRefuses();
        sendPutsIntoTheOwnInput();
        sendTakesSourceAndGoal();
        sendTakesLaneAndMode();
        sendAnswersTheNumber();
        sendRefusesSwitches();
        sendRefusesArguments();
        sendRefusesForNow();
        runRunsTicks();
        runAnswersWhatWentOut();
        runRefuses();
        pauseStopsLinksInto();
        pauseTakesASwitch();
        pauseAnswersWhetherItWas();
        pauseRefuses();
        loseTakesACredit();
        loseTakesALink();
        loseAnswersWhatIsLeft();
        loseRefuses();
        recoverRecoversAll();
        recoverLeavesTheRest();
        recoverAnswersHowMany();
        tickAnswersTheTick();
        packetsAndArrivedCount();
        creditsCount();
        creditsTakeALink();
        creditsRefuse();
        inBufferCounts();
        inBufferTakesAnInput();
        inBufferAnswersZeroWithoutALink();
        inBufferRefuses();
        gapAnswersTheGap();
        gapIsOneToSixteen();
        gapRefuses();
        placeOfAnswersTheSwitch();
        hopsAnswersHowManyLinks();
        isMarkedTells();
        wantsAnswersTheOutput();
        packetsAreRefused();
        circleCountsBuffers();
        mayCircleTells();
        Checks.finish();
    }

    private static int[] besideSwitches(int count) {
        return new int[] {-1, count, FARTHEST_DOWN, FARTHEST_UP};
    }

    private static void sendRound(Creditfabric x, int lane) {
        for (int[] p : CLOCKWISE) {
            x.send(p[0], p[1], lane, p[2]);
        }
    }

    /** Three packets that wait at 1 make a crowd of four there with each packet from 0. */
    private static Creditfabric crowdAtOne() {
        Creditfabric x = Grids.grid(2, 2, 3, 0);
        x.pause(3, true);
        Grids.sendInARow(x, 3, 1, 3, 0);
        return x;
    }

    // ---- promise 1

    private static void aNewObject() {
        Checks.sentence("A new object: A grid of 2 columns and 2 rows, with room for 1 packet and a delay of 0.");
        Creditfabric x = new Creditfabric();
        Checks.due("tick", 0, x.tick());
        Checks.due("packets", 0, x.packets());
        Checks.due("arrived", 0, x.arrived());
        Checks.due("circle", 0, x.circle());
        Checks.due("mayCircle", false, x.mayCircle());
        Checks.due("gap of the last switch", 1, x.gap(3));
        Checks.index("gap behind it", () -> x.gap(4));
        Checks.index("two columns", () -> x.credits(1, Grids.EAST, 0));
        Checks.index("two rows", () -> x.credits(2, Grids.SOUTH, 0));
        Checks.due("room for 1: a link to the east", 1, x.credits(0, Grids.EAST, 0));
        Checks.due("room for 1: a link to the south", 1, x.credits(0, Grids.SOUTH, 1));
        Checks.due("not paused", false, x.pause(0, false));
        Checks.due("send", 0, x.send(0, 1, 0, 0));
        Checks.due("run", 0, x.run(1));
        Checks.due("credit taken", 0, x.credits(0, Grids.EAST, 0));
        Checks.due("run out", 1, x.run(1));
        Checks.due("credit on its way", 0, x.credits(0, Grids.EAST, 0));
        x.run(1);
        Checks.due("delay 0", 1, x.credits(0, Grids.EAST, 0));
    }

    // ---- promise 2

    private static void beginBeginsAnew() {
        Checks.sentence("begin: Begins a grid anew, without packets; the tick is 0.");
        Creditfabric x = crowdAtOne();
        x.send(0, 1, 0, 0);
        x.lose(2, Grids.EAST, 1);
        x.run(2);
        Checks.due("before: gap", 2, x.gap(0));
        Checks.due("before: arrived", 1, x.arrived());
        Checks.due("begin", 4, x.begin(2, 2, 3, 3));
        Checks.due("as a new grid", Questions.all(Grids.grid(2, 2, 3, 3), 2, 2), Questions.all(x, 2, 2));
        Checks.due("tick", 0, x.tick());
        Checks.due("packets", 0, x.packets());
        Checks.due("arrived", 0, x.arrived());
        Checks.due("gap", 1, x.gap(0));
        Checks.due("own input", 0, x.inBuffer(1, Grids.OWN, 0));
        Checks.index("no packet", () -> x.placeOf(0));
        Checks.due("not paused", false, x.pause(3, false));
        Checks.due("nothing lost", 0, x.recover());
        Checks.due("nothing on its way", 0, x.run(6));
        Checks.due("no credit came from before", 3, x.credits(0, Grids.EAST, 0));
        for (int its = 0; its < 4; its++) {
            Checks.due("numbers from 0 on", its, x.send(its, 3 - its, 0, 0));
            Checks.due("hops", 0, x.hops(its));
            Checks.due("mark", false, x.isMarked(its));
        }
    }

    /** After a turn of ring place 0 the next one begins behind it; begin sets that back. */
    private static void beginForgetsTurns() {
        Creditfabric x = Grids.grid(2, 2, 3, 0);
        x.send(0, 1, 0, 0);
        x.run(2);
        x.begin(2, 2, 3, 0);
        x.send(0, 1, 0, 0);
        x.send(3, 1, 0, 0);
        x.run(2);
        Checks.due("turns: the first", -1, x.placeOf(0));
        Checks.due("turns: the second", 1, x.placeOf(1));
    }

    private static void beginTakesItsRanges() {
        Checks.sentence("begin: columns: 2 to 4");
        for (int columns = 2; columns <= 4; columns++) {
            Creditfabric x = Grids.grid(columns, 2, 1, 0);
            int last = columns - 1;
            Checks.due("links to the last column", 1, x.credits(last - 1, Grids.EAST, 0));
            Checks.index("no link behind it", () -> x.credits(last, Grids.EAST, 0));
        }
        Checks.sentence("begin: rows: 2 to 4");
        for (int rows = 2; rows <= 4; rows++) {
            Creditfabric x = Grids.grid(3, rows, 1, 0);
            int last = 3 * (rows - 1);
            Checks.due("links to the last row", 1, x.credits(last - 3, Grids.SOUTH, 0));
            Checks.index("no link behind it", () -> x.credits(last, Grids.SOUTH, 0));
        }
        Checks.sentence("begin: room: 1 to 3");
        for (int room = 1; room <= 3; room++) {
            Creditfabric x = Grids.grid(2, 2, room, 0);
            x.pause(1, true);
            Grids.sendInARow(x, room, 0, 1, 0);
            Checks.state("no more room", () -> x.send(0, 1, 0, 0));
        }
        Checks.sentence("begin: delay: 0 to 3");
        for (int delay = 0; delay <= 3; delay++) {
            Creditfabric x = Grids.grid(2, 2, 1, delay);
            x.send(0, 1, 0, 0);
            x.run(2 + delay);
            Checks.due("not yet back", 0, x.credits(0, Grids.EAST, 0));
            x.run(1);
            Checks.due("back", 1, x.credits(0, Grids.EAST, 0));
        }
    }

    private static void beginAnswersTheSwitches() {
        Checks.sentence("begin: Returns how many switches it has.");
        Creditfabric x = new Creditfabric();
        for (int columns = 2; columns <= 4; columns++) {
            for (int rows = 2; rows <= 4; rows++) {
                int count = columns * rows;
                Checks.due("switches", count, x.begin(columns, rows, 2, 1));
                Checks.due("the last switch", 1, x.gap(count - 1));
                Checks.index("behind the last", () -> x.gap(count));
            }
        }
    }

    private static void beginRefuses() {
        Checks.sentence("begin: Throws IllegalArgumentException if columns, rows, room or delay is out of range");
        Creditfabric x = Grids.grid(3, 2, 2, 1);
        x.send(0, 5, 1, 1);
        int[][] wrong = {{1, 2, 1, 0}, {5, 2, 1, 0}, {2, 1, 1, 0}, {2, 5, 1, 0}, {2, 2, 0, 0}, {2, 2, 4, 0},
            {2, 2, 1, -1}, {2, 2, 1, 4}};
        for (int[] w : wrong) {
            Checks.argument("begin out of range", () -> x.begin(w[0], w[1], w[2], w[3]));
        }
        for (int far : new int[] {-1, FARTHEST_DOWN, FARTHEST_UP}) {
            Checks.argument("far columns", () -> x.begin(far, 2, 1, 0));
            Checks.argument("far rows", () -> x.begin(2, far, 1, 0));
            Checks.argument("far room", () -> x.begin(2, 2, far, 0));
            Checks.argument("far delay", () -> x.begin(2, 2, 1, far));
        }
        Checks.due("the packet is there still", 1, x.packets());
        Checks.due("the last switch", 1, x.gap(5));
        Checks.due("credits", 2, x.credits(0, Grids.EAST, 0));
    }

    // ---- promise 3

    private static void sendPutsIntoTheOwnInput() {
        Checks.sentence("send: Sends a packet: it is put into the buffer of the own input of its source.");
        Creditfabric x = Grids.grid(2, 2, 2, 0);
        x.send(0, 1, 1, 0);
        Checks.due("own input, lane 1", 1, x.inBuffer(0, Grids.OWN, 1));
        Checks.due("own input, lane 0", 0, x.inBuffer(0, Grids.OWN, 0));
        for (int input = 0; input < 4; input++) {
            Checks.due("no input of a link", 0, x.inBuffer(0, input, 1));
        }
        Checks.due("at its source", 0, x.placeOf(0));
    }

    private static void sendTakesSourceAndGoal() {
        Checks.sentence("send: source: its source");
        Creditfabric x = Grids.grid(3, 2, 1, 0);
        for (int source = 0; source < 6; source++) {
            int packet = x.send(source, 5 - source, 0, 0);
            Checks.due("at its source", source, x.placeOf(packet));
        }
        Checks.sentence("send: goal: its goal, another switch");
        Creditfabric y = Grids.grid(3, 2, 1, 0);
        for (int goal = 1; goal < 6; goal++) {
            int packet = y.send(0, goal, 0, 0);
            int way = goal % 3 + goal / 3;
            y.run(way);
            Checks.due("at its goal", goal, y.placeOf(packet));
            Checks.due("out there", 1, y.run(1));
        }
    }

    private static void sendTakesLaneAndMode() {
        Checks.sentence("send: lane: 0 or 1");
        for (int lane = 0; lane < 2; lane++) {
            Creditfabric x = Grids.grid(2, 2, 1, 0);
            x.send(0, 1, lane, 0);
            Checks.due("in its lane", 1, x.inBuffer(0, Grids.OWN, lane));
            x.run(1);
            Checks.due("over the link, too", 1, x.inBuffer(1, Grids.EAST, lane));
            Checks.due("a credit of its lane", 0, x.credits(0, Grids.EAST, lane));
            Checks.due("no credit of the other", 1, x.credits(0, Grids.EAST, 1 - lane));
        }
        Checks.sentence("send: mode: 0 or 1");
        Creditfabric x = Grids.grid(2, 2, 1, 0);
        Checks.due("mode 0", 0, x.send(0, 3, 0, 0));
        Checks.due("mode 1", 1, x.send(3, 0, 0, 1));
        x.run(1);
        Checks.due("along its row first", 1, x.placeOf(0));
        Checks.due("along the column first", 1, x.placeOf(1));
    }

    private static void sendAnswersTheNumber() {
        Checks.sentence("send: Returns its number.");
        Creditfabric x = Grids.grid(2, 2, 2, 0);
        Checks.due("the first", 0, x.send(2, 1, 1, 0));
        Checks.due("the second", 1, x.send(3, 1, 0, 0));
        Checks.due("place of the first", 2, x.placeOf(0));
        Checks.due("place of the second", 3, x.placeOf(1));
        x.begin(2, 2, 2, 0);
        Checks.due("from 0 on again", 0, x.send(1, 3, 0, 0));
    }

    private static void sendRefusesSwitches() {
        Checks.sentence("send: Throws IndexOutOfBoundsException if there is no such switch");
        Creditfabric x = Grids.grid(2, 2, 1, 0);
        for (int far : besideSwitches(4)) {
            Checks.index("from no switch", () -> x.send(far, 0, 0, 0));
            Checks.index("to no switch", () -> x.send(0, far, 0, 0));
            Checks.index("both the same, and no switch", () -> x.send(far, far, 0, 0));
            Checks.index("no switch before no lane", () -> x.send(far, 0, 7, 7));
        }
        Checks.due("none was sent", 0, x.packets());
    }

    private static void sendRefusesArguments() {
        Checks.sentence("send: Throws IllegalArgumentException if both are the same, or lane or mode is neither 0 nor 1");
        Creditfabric x = Grids.grid(2, 2, 1, 0);
        for (int its = 0; its < 4; its++) {
            int same = its;
            Checks.argument("to itself", () -> x.send(same, same, 0, 0));
        }
        for (int far : NO_LANES) {
            Checks.argument("in no lane", () -> x.send(0, 1, far, 0));
            Checks.argument("by no mode", () -> x.send(0, 1, 0, far));
        }
        Checks.due("none was sent", 0, x.packets());
        x.send(0, 1, 0, 0);
        Checks.argument("to itself before fullness", () -> x.send(0, 0, 0, 0));
        Checks.argument("no lane before fullness", () -> x.send(0, 1, 2, 0));
        Checks.argument("no mode before fullness", () -> x.send(0, 1, 0, 2));
    }

    private static void sendRefusesForNow() {
        Checks.sentence("send: Throws IllegalStateException if the buffer is full, the gap is not over, or 80 packets "
            + "were sent");
        Creditfabric x = Grids.grid(2, 2, 1, 0);
        x.pause(1, true);
        x.send(0, 1, 0, 0);
        Checks.state("the gap is not over, though the buffer of lane 1 is empty", () -> x.send(0, 1, 1, 0));
        x.run(1);
        Checks.state("the buffer is full, though the gap is over", () -> x.send(0, 1, 0, 0));
        Checks.due("neither", 1, x.send(0, 1, 1, 0));
        Creditfabric y = Grids.grid(2, 2, 3, 0);
        for (int i = 0; i < 80; i++) {
            Checks.due("the number", i, y.send(i % 4, (i + 1) % 4, i / 4 % 2, 0));
            if (i % 4 == 3) {
                y.run(4);
            }
        }
        Checks.due("all went out", 80, y.arrived());
        Checks.state("80 were sent", () -> y.send(0, 1, 0, 0));
        y.begin(2, 2, 3, 0);
        Checks.due("none was sent in this grid", 0, y.send(0, 1, 0, 0));
    }

    // ---- promise 4

    private static void runRunsTicks() {
        Checks.sentence("run: Runs ticks.");
        Creditfabric x = Grids.grid(4, 4, 1, 0);
        x.send(0, 15, 0, 0);
        int hops = 0;
        for (int ticks : new int[] {1, 3, 2}) {
            x.run(ticks);
            hops += ticks;
            Checks.due("a link a tick", hops, x.hops(0));
            Checks.due("so many ticks", hops, x.tick());
        }
        Checks.sentence("run: ticks: 1 to 50");
        for (int ticks = 1; ticks <= 50; ticks++) {
            Creditfabric y = new Creditfabric();
            y.run(ticks);
            Checks.due("so many ticks", ticks, y.tick());
        }
    }

    private static void runAnswersWhatWentOut() {
        Checks.sentence("run: Returns how many packets went out in them.");
        Creditfabric x = Grids.grid(4, 4, 1, 0);
        x.send(0, 1, 0, 0);
        x.send(4, 5, 0, 0);
        x.send(15, 0, 1, 1);
        Checks.due("two out", 2, x.run(3));
        Checks.due("not yet", 0, x.run(3));
        Checks.due("the third", 1, x.run(1));
        Checks.due("none left", 0, x.run(50));
    }

    private static void runRefuses() {
        Checks.sentence("run: Throws IllegalArgumentException if ticks is out of range");
        Creditfabric x = new Creditfabric();
        x.send(0, 1, 0, 0);
        for (int ticks : new int[] {0, 51, -1, FARTHEST_DOWN, FARTHEST_UP}) {
            Checks.argument("run(" + ticks + ")", () -> x.run(ticks));
        }
        Checks.due("no tick was run", 0, x.tick());
        Checks.due("nothing went", 0, x.placeOf(0));
    }

    // ---- promise 5

    private static void pauseStopsLinksInto() {
        Checks.sentence("pause: Pauses a switch, or no more: no packets come to it over links.");
        Creditfabric x = Grids.grid(2, 2, 1, 0);
        x.send(0, 1, 0, 0);
        x.run(1);
        x.pause(1, true);
        Checks.due("at its goal it goes out all the same", 1, x.run(1));
        x.send(0, 1, 1, 0);
        x.send(1, 3, 0, 0);
        Checks.due("a paused one sends all the same", 1, x.run(10));
        Checks.due("none comes", 0, x.placeOf(1));
        x.pause(1, false);
        Checks.due("no more paused: it comes and goes out", 1, x.run(2));
    }

    private static void pauseTakesASwitch() {
        Checks.sentence("pause: its: the switch");
        Creditfabric x = Grids.grid(3, 3, 1, 0);
        x.pause(5, true);
        x.send(4, 5, 0, 0);
        x.send(0, 1, 0, 0);
        Checks.due("the others are not paused", 1, x.run(2));
        Checks.due("this one is", 4, x.placeOf(0));
        Checks.sentence("pause: isPaused: whether it is paused from now on");
        x.pause(5, true);
        x.run(1);
        Checks.due("it is still", 4, x.placeOf(0));
        x.pause(5, false);
        x.run(1);
        Checks.due("no more", 5, x.placeOf(0));
    }

    private static void pauseAnswersWhetherItWas() {
        Checks.sentence("pause: Returns whether it was.");
        Creditfabric x = new Creditfabric();
        Checks.due("at first", false, x.pause(3, true));
        Checks.due("again", true, x.pause(3, true));
        Checks.due("another one", false, x.pause(2, false));
        Checks.due("no more", true, x.pause(3, false));
        Checks.due("no more, again", false, x.pause(3, false));
    }

    private static void pauseRefuses() {
        Checks.sentence("pause: Throws IndexOutOfBoundsException if there is no such switch");
        Creditfabric x = new Creditfabric();
        for (int far : besideSwitches(4)) {
            Checks.index("pause(" + far + ", true)", () -> x.pause(far, true));
            Checks.index("pause(" + far + ", false)", () -> x.pause(far, false));
        }
    }

    // ---- promise 6

    private static void loseTakesACredit() {
        Checks.sentence("lose: Loses a credit of a link.");
        Creditfabric x = Grids.grid(2, 2, 1, 0);
        x.lose(0, Grids.EAST, 0);
        Checks.due("it is not there", 0, x.credits(0, Grids.EAST, 0));
        x.send(0, 1, 0, 0);
        Checks.due("without it none goes", 0, x.run(50));
        Checks.due("it is never there again", 0, x.credits(0, Grids.EAST, 0));
        Checks.due("the packet is still there", 0, x.placeOf(0));
    }

    private static void loseTakesALink() {
        Checks.sentence("lose: its: the switch ahead of the link");
        Creditfabric x = Grids.grid(3, 3, 2, 0);
        x.lose(4, Grids.EAST, 0);
        Checks.due("of the link from it", 1, x.credits(4, Grids.EAST, 0));
        Checks.due("not of the link to it", 2, x.credits(3, Grids.EAST, 0));
        Checks.due("not of the link back", 2, x.credits(5, Grids.WEST, 0));
        Checks.sentence("lose: direction: 0 to 3");
        for (int direction = 0; direction < 4; direction++) {
            Checks.due("of each direction", 1, x.lose(4, direction, 1));
            Checks.due("of this one", 1, x.credits(4, direction, 1));
        }
        Checks.sentence("lose: lane: 0 or 1");
        Checks.due("lane 0", 1, x.lose(7, Grids.NORTH, 0));
        Checks.due("not lane 1", 2, x.credits(7, Grids.NORTH, 1));
        Checks.due("lane 1", 1, x.lose(7, Grids.NORTH, 1));
    }

    private static void loseAnswersWhatIsLeft() {
        Checks.sentence("lose: Returns how many credits are there then.");
        Creditfabric x = Grids.grid(3, 3, 3, 0);
        for (int left = 2; left >= 0; left--) {
            Checks.due("left", left, x.lose(4, Grids.NORTH, 1));
            Checks.due("there", left, x.credits(4, Grids.NORTH, 1));
        }
    }

    private static void loseRefuses() {
        Checks.sentence("lose: Throws IndexOutOfBoundsException if there is no such switch, or no link from it in this "
            + "direction");
        Creditfabric x = Grids.grid(3, 3, 1, 0);
        for (int far : besideSwitches(9)) {
            Checks.index("at no switch", () -> x.lose(far, Grids.EAST, 0));
        }
        for (int far : besideSwitches(4)) {
            Checks.index("in no direction", () -> x.lose(4, far, 0));
        }
        int[][] edges = {{2, 0}, {5, 0}, {6, 1}, {8, 1}, {0, 2}, {3, 2}, {0, 3}, {2, 3}};
        for (int[] edge : edges) {
            Checks.index("over the edge", () -> x.lose(edge[0], edge[1], 0));
        }
        Checks.index("no link before no lane", () -> x.lose(2, Grids.EAST, 5));
        Checks.sentence("lose: Throws IllegalArgumentException if lane is neither 0 nor 1");
        for (int far : NO_LANES) {
            Checks.argument("in no lane", () -> x.lose(4, Grids.EAST, far));
        }
        Checks.sentence("lose: Throws IllegalStateException if there is no credit there");
        x.lose(4, Grids.EAST, 0);
        Checks.state("it is lost", () -> x.lose(4, Grids.EAST, 0));
        x.send(4, 3, 0, 0);
        x.run(1);
        Checks.state("it is taken", () -> x.lose(4, Grids.WEST, 0));
        x.run(1);
        Checks.state("it is on its way back", () -> x.lose(4, Grids.WEST, 0));
        x.run(1);
        Checks.due("it is back", 0, x.lose(4, Grids.WEST, 0));
        Checks.argument("no lane before no credit", () -> x.lose(4, Grids.EAST, 2));
        Checks.due("refused calls have lost none", 2, x.recover());
    }

    // ---- promise 7

    private static void recoverRecoversAll() {
        Checks.sentence("recover: Recovers all lost credits: of each link and lane there are as many as the room of a "
            + "buffer, less the packets in the buffer, less the credits on their way back.");
        Creditfabric x = Grids.grid(3, 3, 2, 0);
        for (int its = 0; its < 9; its++) {
            for (int direction = 0; direction < 4; direction++) {
                if (Grids.behind(3, 3, its, direction) != Grids.NONE) {
                    x.lose(its, direction, its % 2);
                }
            }
        }
        x.recover();
        for (int its = 0; its < 9; its++) {
            for (int direction = 0; direction < 4; direction++) {
                if (Grids.behind(3, 3, its, direction) != Grids.NONE) {
                    Checks.due("of each link and lane", 2, x.credits(its, direction, its % 2));
                }
            }
        }
    }

    /** Of room 3, one is in the buffer, one on its way back, one lost. */
    private static void recoverLeavesTheRest() {
        Creditfabric x = Grids.grid(2, 2, 3, 3);
        x.send(0, 1, 0, 0);
        x.run(1);
        x.send(0, 1, 0, 0);
        Checks.due("lose one of two", 1, x.lose(0, Grids.EAST, 0));
        x.run(1);
        Checks.due("in the buffer", 1, x.inBuffer(1, Grids.EAST, 0));
        Checks.due("none there", 0, x.credits(0, Grids.EAST, 0));
        Checks.due("recover one", 1, x.recover());
        Checks.due("one there", 1, x.credits(0, Grids.EAST, 0));
        x.run(3);
        Checks.due("not yet back", 1, x.credits(0, Grids.EAST, 0));
        x.run(1);
        Checks.due("the first is back", 2, x.credits(0, Grids.EAST, 0));
        x.run(1);
        Checks.due("the second is back", 3, x.credits(0, Grids.EAST, 0));
    }

    private static void recoverAnswersHowMany() {
        Checks.sentence("recover: Returns how many were lost.");
        Creditfabric x = Grids.grid(3, 3, 3, 0);
        Checks.due("none", 0, x.recover());
        x.lose(4, Grids.NORTH, 1);
        x.lose(4, Grids.NORTH, 1);
        x.lose(8, Grids.WEST, 0);
        x.send(0, 1, 0, 0);
        x.run(1);
        Checks.due("three, and not the one that is taken", 3, x.recover());
        Checks.due("none any more", 0, x.recover());
        x.run(1);
        Checks.due("none, though one is on its way", 0, x.recover());
    }

    // ---- promises 8 to 10

    private static void tickAnswersTheTick() {
        Checks.sentence("tick: Returns the tick.");
        Creditfabric x = new Creditfabric();
        Checks.due("at first", 0, x.tick());
        x.run(1);
        Checks.due("after 1", 1, x.tick());
        x.run(50);
        Checks.due("after 51", 51, x.tick());
        x.begin(2, 2, 1, 0);
        Checks.due("anew", 0, x.tick());
    }

    private static void packetsAndArrivedCount() {
        Checks.sentence("packets: Returns how many packets were sent.");
        Creditfabric x = Grids.grid(3, 3, 1, 0);
        for (int its = 0; its < 4; its++) {
            Checks.due("sent", its, x.packets());
            x.send(its, 4, 0, 0);
        }
        x.run(50);
        Checks.due("those that went out were sent, too", 4, x.packets());
        Checks.sentence("arrived: Returns how many packets went out.");
        Creditfabric y = Grids.grid(3, 3, 1, 0);
        y.send(0, 1, 0, 0);
        y.send(8, 0, 0, 0);
        int[] out = {0, 0, 1, 1, 1, 2, 2};
        for (int tick = 0; tick < out.length; tick++) {
            Checks.due("out ahead of the tick " + tick, out[tick], y.arrived());
            y.run(1);
        }
    }

    // ---- promise 11

    private static void creditsCount() {
        Checks.sentence("credits: Returns how many credits there are.");
        Creditfabric x = Grids.grid(2, 2, 3, 1);
        Checks.due("all", 3, x.credits(0, Grids.EAST, 1));
        x.send(0, 1, 1, 0);
        x.run(1);
        Checks.due("one is taken", 2, x.credits(0, Grids.EAST, 1));
        x.lose(0, Grids.EAST, 1);
        Checks.due("one is lost", 1, x.credits(0, Grids.EAST, 1));
        x.run(2);
        Checks.due("one is on its way", 1, x.credits(0, Grids.EAST, 1));
        Checks.sentence("credits: Returns how many.");
        x.run(1);
        Checks.due("it is back", 2, x.credits(0, Grids.EAST, 1));
        x.recover();
        Checks.due("all", 3, x.credits(0, Grids.EAST, 1));
        x.run(9);
        Checks.due("never more", 3, x.credits(0, Grids.EAST, 1));
    }

    private static void creditsTakeALink() {
        Checks.sentence("credits: its: the switch ahead of the link");
        Creditfabric x = Grids.grid(3, 3, 2, 0);
        x.send(3, 4, 0, 0);
        x.run(1);
        Checks.due("of the link from it", 1, x.credits(3, Grids.EAST, 0));
        Checks.due("not of the link from the one behind", 2, x.credits(4, Grids.EAST, 0));
        Checks.due("not of the link back", 2, x.credits(4, Grids.WEST, 0));
        Checks.sentence("credits: direction: 0 to 3");
        Creditfabric y = Grids.grid(3, 3, 3, 0);
        for (int direction = 0; direction < 4; direction++) {
            y.lose(4, direction, 0);
            for (int other = 0; other < 4; other++) {
                Checks.due("direction " + other, other <= direction ? 2 : 3, y.credits(4, other, 0));
            }
        }
        Checks.sentence("credits: lane: 0 or 1");
        y.lose(4, Grids.EAST, 0);
        Checks.due("lane 0", 1, y.credits(4, Grids.EAST, 0));
        Checks.due("lane 1", 3, y.credits(4, Grids.EAST, 1));
    }

    private static void creditsRefuse() {
        Checks.sentence("credits: Throws IndexOutOfBoundsException if there is no such switch, or no link from it in this "
            + "direction");
        Creditfabric x = Grids.grid(2, 3, 1, 0);
        for (int far : besideSwitches(6)) {
            Checks.index("at no switch", () -> x.credits(far, Grids.EAST, 0));
        }
        for (int far : besideSwitches(4)) {
            Checks.index("in no direction", () -> x.credits(2, far, 0));
        }
        int[][] edges = {{1, 0}, {5, 0}, {4, 1}, {5, 1}, {0, 2}, {2, 2}, {0, 3}, {1, 3}};
        for (int[] edge : edges) {
            Checks.index("over the edge", () -> x.credits(edge[0], edge[1], 0));
        }
        Checks.index("no link before no lane", () -> x.credits(2, Grids.WEST, 9));
        Checks.sentence("credits: Throws IllegalArgumentException if lane is neither 0 nor 1");
        for (int far : NO_LANES) {
            Checks.argument("in no lane", () -> x.credits(2, Grids.EAST, far));
        }
    }

    // ---- promise 12

    private static void inBufferCounts() {
        Checks.sentence("inBuffer: Returns how many packets are in a buffer.");
        Creditfabric x = Grids.grid(2, 2, 3, 0);
        x.pause(3, true);
        for (int count = 0; count <= 3; count++) {
            Checks.due("in the buffer of the link", count, x.inBuffer(1, Grids.EAST, 0));
            x.send(0, 3, 0, 0);
            Checks.due("in the own input", 1, x.inBuffer(0, Grids.OWN, 0));
            x.run(1);
        }
        Checks.due("no more come", 3, x.inBuffer(1, Grids.EAST, 0));
        x.pause(3, false);
        x.run(10);
        Checks.due("all have left", 0, x.inBuffer(1, Grids.EAST, 0));
    }

    private static void inBufferTakesAnInput() {
        Checks.sentence("inBuffer: its: the switch");
        Creditfabric x = Grids.grid(3, 3, 2, 0);
        x.pause(1, true);
        x.send(4, 1, 0, 0);
        for (int its = 0; its < 9; its++) {
            Checks.due("own input of " + its, its == 4 ? 1 : 0, x.inBuffer(its, Grids.OWN, 0));
        }
        Checks.sentence("inBuffer: input: 0 to 3 for the link that goes in this direction, 4 for its own");
        for (int direction = 0; direction < 4; direction++) {
            x.send(Grids.ahead(3, 3, 4, direction), 4, direction % 2, 0);
        }
        x.run(1);
        for (int direction = 0; direction < 4; direction++) {
            Checks.due("input " + direction, 1, x.inBuffer(4, direction, direction % 2));
        }
        Checks.due("its own", 1, x.inBuffer(4, Grids.OWN, 0));
        Checks.sentence("inBuffer: lane: 0 or 1");
        for (int direction = 0; direction < 4; direction++) {
            Checks.due("the other lane", 0, x.inBuffer(4, direction, 1 - direction % 2));
        }
        Checks.due("its own, the other lane", 0, x.inBuffer(4, Grids.OWN, 1));
    }

    private static void inBufferAnswersZeroWithoutALink() {
        Checks.sentence("inBuffer: Returns how many; 0 if there is no such link.");
        Creditfabric x = Grids.grid(3, 3, 1, 0);
        for (int its = 0; its < 9; its++) {
            x.send(its, its == 4 ? 0 : 8 - its, 0, 0);
        }
        x.run(1);
        for (int its = 0; its < 9; its++) {
            for (int input = 0; input < 4; input++) {
                if (Grids.ahead(3, 3, its, input) == Grids.NONE) {
                    Checks.due("no link " + input + " to " + its, 0, x.inBuffer(its, input, 0));
                    Checks.due("no link " + input + " to " + its, 0, x.inBuffer(its, input, 1));
                }
            }
        }
        Checks.due("a link", 1, x.inBuffer(1, Grids.EAST, 0));
    }

    private static void inBufferRefuses() {
        Checks.sentence("inBuffer: Throws IndexOutOfBoundsException if there is no such switch");
        Creditfabric x = new Creditfabric();
        for (int far : besideSwitches(4)) {
            Checks.index("at no switch", () -> x.inBuffer(far, 0, 0));
        }
        Checks.index("no switch before no input", () -> x.inBuffer(4, 5, 2));
        Checks.sentence("inBuffer: Throws IllegalArgumentException if input or lane is out of range");
        for (int far : besideSwitches(5)) {
            Checks.argument("at no input", () -> x.inBuffer(0, far, 0));
        }
        for (int far : NO_LANES) {
            Checks.argument("in no lane", () -> x.inBuffer(0, Grids.NORTH, far));
            Checks.argument("in no lane, without a link", () -> x.inBuffer(0, Grids.EAST, far));
        }
    }

    // ---- promise 13

    private static void gapAnswersTheGap() {
        Checks.sentence("gap: Returns the gap of a switch.");
        Creditfabric x = crowdAtOne();
        Checks.due("at first", 1, x.gap(0));
        x.send(0, 1, 0, 0);
        x.run(2);
        Checks.due("after a marked one", 2, x.gap(0));
        Checks.sentence("gap: its: the switch");
        for (int its = 1; its < 4; its++) {
            Checks.due("another one", 1, x.gap(its));
        }
    }

    private static void gapIsOneToSixteen() {
        Checks.sentence("gap: Returns 1 to 16.");
        Creditfabric x = crowdAtOne();
        for (int due : new int[] {2, 4, 8, 16, 16, 16}) {
            x.send(0, 1, 0, 0);
            x.run(16);
            Checks.due("not above 16", due, x.gap(0));
        }
        for (int due = 15; due >= -1; due--) {
            x.send(0, 2, 0, 0);
            x.run(16);
            Checks.due("not below 1", due > 1 ? due : 1, x.gap(0));
        }
    }

    private static void gapRefuses() {
        Checks.sentence("gap: Throws IndexOutOfBoundsException if there is no such switch");
        Creditfabric x = new Creditfabric();
        for (int far : besideSwitches(4)) {
            Checks.index("gap(" + far + ")", () -> x.gap(far));
        }
    }

    // ---- promises 14 to 17

    /** A packet from 0 to 5 of 3 x 3 by mode 0, and another one, so that a wrong number is seen. */
    private static Creditfabric twoOnTheirWay() {
        Creditfabric x = Grids.grid(3, 3, 1, 0);
        x.send(0, 5, 0, 0);
        x.send(8, 7, 0, 0);
        return x;
    }

    private static void placeOfAnswersTheSwitch() {
        Checks.sentence("placeOf: Returns the switch in which a packet is.");
        Creditfabric x = twoOnTheirWay();
        for (int place : new int[] {0, 1, 2, 5}) {
            Checks.due("the place", place, x.placeOf(0));
            x.run(1);
        }
        Checks.sentence("placeOf: Returns the switch; NONE if it went out.");
        Checks.due("out", Creditfabric.NONE, x.placeOf(0));
        Checks.sentence("placeOf: packet: its number");
        Creditfabric y = twoOnTheirWay();
        Checks.due("the other one", 8, y.placeOf(1));
        y.run(1);
        Checks.due("the other one", 7, y.placeOf(1));
        y.run(1);
        Checks.due("the other one is out", Creditfabric.NONE, y.placeOf(1));
        Checks.due("this one is not", 2, y.placeOf(0));
    }

    private static void hopsAnswersHowManyLinks() {
        Checks.sentence("hops: Returns how many links a packet has gone over.");
        Creditfabric x = twoOnTheirWay();
        for (int hops = 0; hops <= 3; hops++) {
            Checks.due("links", hops, x.hops(0));
            x.run(1);
        }
        Checks.sentence("hops: Returns how many.");
        Checks.due("out is no link", 3, x.hops(0));
        x.pause(3, true);
        int waits = x.send(4, 3, 0, 0);
        x.run(5);
        Checks.due("waiting is no link", 0, x.hops(waits));
        Checks.sentence("hops: packet: its number");
        Checks.due("the other one", 1, x.hops(1));
    }

    private static void isMarkedTells() {
        Checks.sentence("isMarked: Tells whether a packet is marked.");
        Creditfabric x = crowdAtOne();
        int packet = x.send(0, 1, 1, 0);
        Checks.due("not yet", false, x.isMarked(packet));
        x.run(1);
        Checks.due("it came to a crowd", true, x.isMarked(packet));
        Checks.sentence("isMarked: Returns whether it is.");
        x.run(1);
        Checks.due("still when it is out", true, x.isMarked(packet));
        Checks.sentence("isMarked: packet: its number");
        for (int other = 0; other < packet; other++) {
            Checks.due("another one", false, x.isMarked(other));
        }
    }

    private static void wantsAnswersTheOutput() {
        Checks.sentence("wants: Returns the output that a packet wants at its place.");
        Creditfabric x = twoOnTheirWay();
        for (int output : new int[] {Grids.EAST, Grids.EAST, Grids.SOUTH, 4}) {
            Checks.due("the output", output, x.wants(0));
            x.run(1);
        }
        Checks.sentence("wants: Returns 0 to 4; NONE if it went out.");
        Checks.due("out", Creditfabric.NONE, x.wants(0));
        Creditfabric y = Grids.grid(3, 3, 1, 0);
        int[][] ways = {{0, 2, 3}, {2, 0, 3}, {6, 2, 1}, {8, 0, 1}, {1, 3, 3}, {3, 2, 2}, {5, 0, 0}, {7, 1, 1}};
        for (int[] way : ways) {
            for (int mode = 0; mode < 2; mode++) {
                int packet = y.send(4, way[0], 0, mode);
                Checks.due("to " + way[0] + " by mode " + mode, way[1 + mode], y.wants(packet));
                y.run(8);
                Checks.due("out", Creditfabric.NONE, y.wants(packet));
            }
        }
        Checks.sentence("wants: packet: its number");
        Creditfabric z = twoOnTheirWay();
        Checks.due("the other one", Grids.WEST, z.wants(1));
        z.run(1);
        Checks.due("the other one", 4, z.wants(1));
    }

    private static void packetsAreRefused() {
        for (int count = 0; count < 3; count++) {
            Creditfabric x = new Creditfabric();
            for (int packet = 0; packet < count; packet++) {
                x.send(packet, 3, 0, 0);
            }
            for (int far : new int[] {count, 80, -1, FARTHEST_DOWN, FARTHEST_UP}) {
                Checks.sentence("placeOf: Throws IndexOutOfBoundsException if there is no such packet");
                Checks.index("placeOf(" + far + ")", () -> x.placeOf(far));
                Checks.sentence("hops: Throws IndexOutOfBoundsException if there is no such packet");
                Checks.index("hops(" + far + ")", () -> x.hops(far));
                Checks.sentence("isMarked: Throws IndexOutOfBoundsException if there is no such packet");
                Checks.index("isMarked(" + far + ")", () -> x.isMarked(far));
                Checks.sentence("wants: Throws IndexOutOfBoundsException if there is no such packet");
                Checks.index("wants(" + far + ")", () -> x.wants(far));
            }
        }
    }

    // ---- promises 18 and 19

    private static void circleCountsBuffers() {
        Checks.sentence("circle: Returns how many buffers are on waiting circles now.");
        Creditfabric x = Grids.grid(2, 2, 1, 0);
        sendRound(x, 1);
        Checks.due("own inputs are on no circle", 0, x.circle());
        x.run(1);
        Checks.due("four wait for one another", 4, x.circle());
        sendRound(x, 1);
        Checks.due("who waits for a circle is not on it", 4, x.circle());
        x.begin(2, 2, 1, 0);
        sendRound(x, 0);
        x.run(1);
        x.pause(0, true);
        Checks.due("pauses do not matter to it", 4, x.circle());
        Creditfabric two = Grids.grid(4, 2, 1, 0);
        int[][] rings = {{0, 5, 0}, {1, 4, 1}, {5, 0, 0}, {4, 1, 1}, {2, 7, 0}, {3, 6, 1}, {7, 2, 0}, {6, 3, 1}};
        for (int[] p : rings) {
            two.send(p[0], p[1], 0, p[2]);
        }
        two.run(1);
        Checks.due("on two circles", 8, two.circle());
        Creditfabric free = Grids.grid(2, 2, 2, 0);
        sendRound(free, 0);
        free.run(1);
        Checks.due("with room left none waits", 0, free.circle());
        Checks.due("with room left all go out", 4, free.run(2));
    }

    private static void mayCircleTells() {
        Checks.sentence("mayCircle: Tells whether there is a circle in what hangs on what, as it is now.");
        Creditfabric x = Grids.grid(2, 2, 2, 0);
        Checks.due("without packets", false, x.mayCircle());
        for (int i = 0; i < 4; i++) {
            Checks.due("not yet", false, x.mayCircle());
            x.send(CLOCKWISE[i][0], CLOCKWISE[i][1], 0, CLOCKWISE[i][2]);
        }
        Checks.due("four round a ring, though there is room", true, x.mayCircle());
        Checks.due("before any run", 0, x.tick());
        x.run(2);
        Checks.due("as it is now: at their goals", false, x.mayCircle());
        Creditfabric rows = Grids.grid(2, 2, 2, 0);
        for (int source = 0; source < 4; source++) {
            rows.send(source, 3 - source, 0, 0);
        }
        Checks.due("all along rows first", false, rows.mayCircle());
    }
}
