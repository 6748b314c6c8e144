import java.util.ArrayList;
import java.util.List;

/**
 * "A call that throws an exception changes nothing. If several apply, the one that the throws clause names first is
 * thrown." Each refused call is made in several scenes; every question must answer afterwards as before, and all that
 * is done afterwards must go as on an object of the same calls without the refused one.
 */
public final class RefusedCallsTest {
    private static final int DOWN = Integer.MIN_VALUE;
    private static final int UP = Integer.MAX_VALUE;
    private static final Class<?> INDEX = IndexOutOfBoundsException.class;
    private static final Class<?> ARGUMENT = IllegalArgumentException.class;
    private static final Class<?> STATE = IllegalStateException.class;

    // All scenes are of 2 columns and 2 rows, so that all questions can be asked twice within 512 calls.
    private static final int COLUMNS = 2;
    private static final int ROWS = 2;
    private static final int SWITCHES = 4;

    private interface Scene {
        Creditfabric make();
    }

    private interface Call {
        void on(Creditfabric x);
    }

    private record Refused(String told, Class<?> due, Call call) {
    }

    private RefusedCallsTest() {
    }

    public static void main(String[] args) {
        Checks.sentence("A call that throws an exception changes nothing.");
        List<Refused> always = refusedInAnyState();
        inScene("new", Creditfabric::new, always);
        inScene("busy", RefusedCallsTest::busy, always);
        inScene("busy", RefusedCallsTest::busy, refusedWhenBusy());
        inScene("stuck", RefusedCallsTest::stuck, always);
        inScene("stuck", RefusedCallsTest::stuck, refusedWhenStuck());
        whenEightyWereSent();
        questionsChangeNothing();
        Checks.sentence("If several apply, the one that the throws clause names first is thrown.");
        severalApplyToSend();
        severalApplyToLinks();
        severalApplyToInBuffer();
        Checks.finish();
    }

    // ---- the scenes

    /**
     * Three packets wait at 1, where 0 has its full share of marks; credits are lost, and on their way; 0 has a gap of 4
     * and has sent a tick ago.
     */
    private static Creditfabric busy() {
        Creditfabric x = new Creditfabric();
        x.begin(COLUMNS, ROWS, 3, 2);
        x.pause(3, true);
        Grids.sendInARow(x, 3, 1, 3, 0);
        for (int i = 0; i < 2; i++) {
            x.send(0, 1, 1, 0);
            x.run(3);
        }
        for (int i = 0; i < 3; i++) {
            x.lose(3, 2, 1);
        }
        x.lose(2, 3, 0);
        x.send(2, 1, 0, 1);
        x.run(1);
        x.send(0, 3, 1, 0);
        x.run(1);
        return x;
    }

    /** A waiting circle with a full own input behind each of its buffers. */
    private static Creditfabric stuck() {
        Creditfabric x = new Creditfabric();
        int[][] ring = {{0, 3, 0}, {1, 2, 1}, {3, 0, 0}, {2, 1, 1}};
        for (int round = 0; round < 2; round++) {
            for (int[] p : ring) {
                x.send(p[0], p[1], 0, p[2]);
            }
            x.run(1);
        }
        return x;
    }

    private static Creditfabric eighty() {
        Creditfabric x = new Creditfabric();
        x.begin(COLUMNS, ROWS, 3, 1);
        for (int packet = 0; packet < 80; packet++) {
            x.send(packet % 4, 3 - packet % 4, packet / 4 % 2, 0);
            if (packet % 4 == 3) {
                x.run(4);
            }
        }
        return x;
    }

    // ---- the calls

    private static List<Refused> refusedInAnyState() {
        List<Refused> all = new ArrayList<>();
        int[][] grids = {{1, 2, 1, 0}, {5, 2, 1, 0}, {2, 1, 1, 0}, {2, 5, 1, 0}, {2, 2, 0, 0}, {2, 2, 4, 0}, {2, 2, 1, -1},
            {2, 2, 1, 4}, {DOWN, 4, 3, 3}, {4, UP, 3, 3}, {4, 4, DOWN, 3}, {4, 4, 3, UP}, {0, 0, 0, 0}};
        for (int[] g : grids) {
            String told = "begin(" + g[0] + ", " + g[1] + ", " + g[2] + ", " + g[3] + ")";
            all.add(new Refused(told, ARGUMENT, x -> x.begin(g[0], g[1], g[2], g[3])));
        }
        int[][] packets = {{-1, 1, 0, 0}, {4, 1, 0, 0}, {2, -1, 0, 0}, {2, 4, 0, 0}, {DOWN, UP, 0, 0}, {2, 2, 0, 0},
            {2, 3, -1, 0}, {2, 3, 2, 0}, {2, 3, 1, -1}, {2, 3, 1, 2}};
        for (int[] p : packets) {
            boolean isIndex = p[0] < 0 || p[0] > 3 || p[1] < 0 || p[1] > 3;
            String told = "send(" + p[0] + ", " + p[1] + ", " + p[2] + ", " + p[3] + ")";
            all.add(new Refused(told, isIndex ? INDEX : ARGUMENT, x -> x.send(p[0], p[1], p[2], p[3])));
        }
        for (int ticks : new int[] {DOWN, -1, 0, 51, UP}) {
            all.add(new Refused("run(" + ticks + ")", ARGUMENT, x -> x.run(ticks)));
        }
        for (int its : new int[] {DOWN, -1, SWITCHES, UP}) {
            all.add(new Refused("pause(" + its + ", true)", INDEX, x -> x.pause(its, true)));
            all.add(new Refused("pause(" + its + ", false)", INDEX, x -> x.pause(its, false)));
            all.add(new Refused("lose(" + its + ", 0, 0)", INDEX, x -> x.lose(its, 0, 0)));
            all.add(new Refused("credits(" + its + ", 0, 0)", INDEX, x -> x.credits(its, 0, 0)));
            all.add(new Refused("inBuffer(" + its + ", 0, 0)", INDEX, x -> x.inBuffer(its, 0, 0)));
            all.add(new Refused("gap(" + its + ")", INDEX, x -> x.gap(its)));
        }
        addLinks(all);
        addPackets(all);
        return all;
    }

    private static void addLinks(List<Refused> all) {
        int[][] none = {{0, 2}, {0, 3}, {1, 0}, {1, 3}, {2, 1}, {2, 2}, {3, 0}, {3, 1}, {0, -1}, {0, 4}, {3, DOWN}, {3, UP}};
        for (int[] link : none) {
            String told = "(" + link[0] + ", " + link[1] + ", 0)";
            all.add(new Refused("lose" + told, INDEX, x -> x.lose(link[0], link[1], 0)));
            all.add(new Refused("credits" + told, INDEX, x -> x.credits(link[0], link[1], 1)));
        }
        for (int far : new int[] {DOWN, -1, 2, UP}) {
            all.add(new Refused("lose in lane " + far, ARGUMENT, x -> x.lose(0, 0, far)));
            all.add(new Refused("credits in lane " + far, ARGUMENT, x -> x.credits(0, 0, far)));
            all.add(new Refused("inBuffer in lane " + far, ARGUMENT, x -> x.inBuffer(0, 0, far)));
        }
        for (int far : new int[] {DOWN, -1, 5, UP}) {
            all.add(new Refused("inBuffer of input " + far, ARGUMENT, x -> x.inBuffer(0, far, 0)));
        }
    }

    private static void addPackets(List<Refused> all) {
        for (int far : new int[] {DOWN, -1, 80, UP}) {
            all.add(new Refused("placeOf(" + far + ")", INDEX, x -> x.placeOf(far)));
            all.add(new Refused("hops(" + far + ")", INDEX, x -> x.hops(far)));
            all.add(new Refused("isMarked(" + far + ")", INDEX, x -> x.isMarked(far)));
            all.add(new Refused("wants(" + far + ")", INDEX, x -> x.wants(far)));
        }
        all.add(new Refused("placeOf(packets())", INDEX, x -> x.placeOf(x.packets())));
        all.add(new Refused("hops(packets())", INDEX, x -> x.hops(x.packets())));
        all.add(new Refused("isMarked(packets())", INDEX, x -> x.isMarked(x.packets())));
        all.add(new Refused("wants(packets())", INDEX, x -> x.wants(x.packets())));
    }

    private static List<Refused> refusedWhenBusy() {
        List<Refused> all = new ArrayList<>();
        all.add(new Refused("send into a full buffer", STATE, x -> x.send(1, 3, 0, 0)));
        all.add(new Refused("send before the gap is over", STATE, x -> x.send(0, 1, 0, 0)));
        all.add(new Refused("send before the gap is over", STATE, x -> x.send(0, 1, 1, 1)));
        all.add(new Refused("lose without a credit", STATE, x -> x.lose(3, 2, 1)));
        return all;
    }

    private static List<Refused> refusedWhenStuck() {
        List<Refused> all = new ArrayList<>();
        int[] directions = {0, 1, 3, 2};
        for (int its = 0; its < SWITCHES; its++) {
            int source = its;
            int direction = directions[its];
            all.add(new Refused("send into a full buffer", STATE, x -> x.send(source, 3 - source, 0, 0)));
            all.add(new Refused("lose of a full buffer", STATE, x -> x.lose(source, direction, 0)));
        }
        return all;
    }

    // ---- before, afterwards, and from then on

    private static void inScene(String name, Scene scene, List<Refused> all) {
        Creditfabric twin = scene.make();
        String due = Questions.all(twin, COLUMNS, ROWS);
        String dueLater = future(scene.make());
        for (Refused refused : all) {
            String what = name + ": " + refused.told;
            Creditfabric x = scene.make();
            Checks.due(what + ": before", due, Questions.all(x, COLUMNS, ROWS));
            expect(what, refused.due, x, refused.call);
            Checks.due(what + ": afterwards", due, Questions.all(x, COLUMNS, ROWS));
            expect(what + " again", refused.due, x, refused.call);
            Checks.due(what + ": from then on", dueLater, future(x));
        }
    }

    private static void expect(String what, Class<?> due, Creditfabric x, Call call) {
        String got = "nothing";
        try {
            call.on(x);
        } catch (RuntimeException e) {
            got = e.getClass().getName();
        }
        Checks.due(what, due.getName(), got);
    }

    /** What no question tells at once: pauses, the last times of sending, turns, credits on their way. */
    private static String future(Creditfabric x) {
        StringBuilder told = new StringBuilder();
        for (int its = 0; its < SWITCHES; its++) {
            told.append(x.pause(its, false)).append(' ').append(sending(x, its)).append('\n');
        }
        for (int i = 0; i < 4; i++) {
            told.append("out ").append(x.run(1)).append('\n').append(Questions.ofThePackets(x));
        }
        told.append("lost ").append(x.recover()).append('\n');
        told.append("out ").append(x.run(20)).append('\n').append(Questions.ofTheGrid(x, COLUMNS, ROWS));
        return told.toString();
    }

    private static String sending(Creditfabric x, int its) {
        try {
            return "sent " + x.send(its, 3 - its, 0, 0);
        } catch (IllegalStateException e) {
            return "not sent";
        }
    }

    private static void whenEightyWereSent() {
        Creditfabric twin = eighty();
        String due = Questions.all(twin, COLUMNS, ROWS);
        for (int source = 0; source < SWITCHES; source++) {
            for (int lane = 0; lane < 2; lane++) {
                int from = source;
                int in = lane;
                Call send = x -> x.send(from, 3 - from, in, 0);
                Creditfabric x = eighty();
                expect("the 81st", STATE, x, send);
                Checks.due("the 81st: afterwards", due, Questions.all(x, COLUMNS, ROWS));
                Creditfabric later = eighty();
                expect("the 81st", STATE, later, send);
                Checks.due("the 81st: none goes out", 0, later.run(50));
                Checks.due("the 81st: its number is none", 80, later.packets());
                later.begin(COLUMNS, ROWS, 3, 1);
                Checks.due("anew", 0, later.send(from, 3 - from, in, 0));
            }
        }
    }

    private static void questionsChangeNothing() {
        Checks.sentence("places, credits, circles and gaps are asked, which changes nothing");
        Scene[] scenes = {Creditfabric::new, RefusedCallsTest::busy, RefusedCallsTest::stuck};
        for (Scene scene : scenes) {
            Creditfabric asked = scene.make();
            String first = Questions.all(asked, COLUMNS, ROWS);
            Checks.due("asked again", first, Questions.all(asked, COLUMNS, ROWS));
            Checks.due("asked or not", future(scene.make()), future(asked));
        }
    }

    // ---- which exception comes first

    private static void severalApplyToSend() {
        int[] switches = {DOWN, -1, 0, 1, 2, SWITCHES, UP};
        int[] twos = {DOWN, -1, 0, 1, 2, UP};
        String due = Questions.all(busy(), COLUMNS, ROWS);
        for (int source : switches) {
            for (int goal : switches) {
                Creditfabric x = busy();
                for (int lane : twos) {
                    for (int mode : twos) {
                        Class<?> first = firstOfSend(source, goal, lane, mode);
                        if (first != null) {
                            String told = "send(" + source + ", " + goal + ", " + lane + ", " + mode + ")";
                            expect(told, first, x, y -> y.send(source, goal, lane, mode));
                        }
                    }
                }
                Checks.due("after all refused ones", due, Questions.all(x, COLUMNS, ROWS));
            }
        }
    }

    /** When busy, 0 must wait for its gap, and 1 has no room in lane 0. */
    private static Class<?> firstOfSend(int source, int goal, int lane, int mode) {
        if (source < 0 || source >= SWITCHES || goal < 0 || goal >= SWITCHES) {
            return INDEX;
        }
        if (source == goal || lane < 0 || lane > 1 || mode < 0 || mode > 1) {
            return ARGUMENT;
        }
        return source == 0 || source == 1 && lane == 0 ? STATE : null;
    }

    private static void severalApplyToLinks() {
        String due = Questions.all(stuck(), COLUMNS, ROWS);
        for (int its : new int[] {DOWN, -1, 0, 3, SWITCHES, UP}) {
            Creditfabric x = stuck();
            for (int direction : new int[] {DOWN, -1, 0, 1, 2, 3, 4, UP}) {
                for (int lane : new int[] {DOWN, -1, 0, 1, 2, UP}) {
                    boolean isLink = its >= 0 && its < SWITCHES
                        && Grids.behind(COLUMNS, ROWS, its, direction) != Grids.NONE;
                    String told = "(" + its + ", " + direction + ", " + lane + ")";
                    if (!isLink || lane < 0 || lane > 1) {
                        Class<?> first = isLink ? ARGUMENT : INDEX;
                        expect("lose" + told, first, x, y -> y.lose(its, direction, lane));
                        expect("credits" + told, first, x, y -> y.credits(its, direction, lane));
                    } else if (lane == 0 && (its == 0 && direction == 0 || its == 3 && direction == 2)) {
                        expect("lose" + told, STATE, x, y -> y.lose(its, direction, lane));
                    }
                }
            }
            Checks.due("after all refused ones", due, Questions.all(x, COLUMNS, ROWS));
        }
    }

    private static void severalApplyToInBuffer() {
        for (int its : new int[] {DOWN, -1, 0, 3, SWITCHES, UP}) {
            Creditfabric x = stuck();
            for (int input : new int[] {DOWN, -1, 0, 4, 5, UP}) {
                for (int lane : new int[] {DOWN, -1, 0, 1, 2, UP}) {
                    boolean isSwitch = its >= 0 && its < SWITCHES;
                    if (!isSwitch || input < 0 || input > 4 || lane < 0 || lane > 1) {
                        String told = "inBuffer(" + its + ", " + input + ", " + lane + ")";
                        expect(told, isSwitch ? ARGUMENT : INDEX, x, y -> y.inBuffer(its, input, lane));
                    }
                }
            }
        }
    }
}
