/**
 * Compares the class with the reference, call by call, on runs that a fixed row of numbers chooses. Each object gets at
 * most 512 calls, as the document says, so what is asked is drawn among what is done.
 */
public final class ReferenceTest {
    private static final int RUNS = 3000;
    private static final int CALLS = 512;

    private static final String[] NAMES = {"begin", "send", "run", "pause", "lose", "recover", "tick", "packets",
        "arrived", "credits", "inBuffer", "gap", "placeOf", "hops", "isMarked", "wants", "circle", "mayCircle"};

    // How often the runs came to what they are to show; a run of calls that never gets there would test nothing.
    private static int circlesSeen = 0;
    private static int marksSeen = 0;
    private static int widestGap = 0;
    private static int mostPackets = 0;
    private static int mayCirclesSeen = 0;
    private static int lostSeen = 0;
    private static int longestCircle = 0;

    private final Creditfabric x = new Creditfabric();
    private final Reference y = new Reference();
    private final int run;
    private long seed;
    private int switches = 4;
    private boolean isCrowded;
    private int favouriteLane;
    private int rareness;
    private int longestTicks;

    private ReferenceTest(int number) {
        run = number;
        seed = number * 7919L + 17;
    }

    public static void main(String[] args) {
        for (int run = 0; run < RUNS; run++) {
            if (!new ReferenceTest(run).isRight()) {
                break;
            }
        }
        Checks.tell(circlesSeen > 1000, "too few circles: " + circlesSeen);
        Checks.tell(longestCircle > 4, "too short circles: " + longestCircle);
        Checks.tell(mayCirclesSeen > 1000, "too few circles that may be: " + mayCirclesSeen);
        Checks.tell(marksSeen > 1000, "too few marks: " + marksSeen);
        Checks.tell(lostSeen > 1000, "too few lost credits: " + lostSeen);
        Checks.due("the widest gap", 16, widestGap);
        Checks.due("the most packets", 80, mostPackets);
        Checks.finish();
    }

    private boolean isRight() {
        isCrowded = below(3) > 0;
        favouriteLane = isCrowded || below(3) == 0 ? below(2) : -1;
        rareness = 2 + below(20);
        longestTicks = isCrowded ? 1 : 1 + below(below(4) == 0 ? 50 : 4);
        StringBuilder told = new StringBuilder();
        for (int call = 0; call < CALLS; call++) {
            int[] next = call == 0 && below(10) > 0 ? drawGrid() : draw();
            String want = answer(next, false);
            String got = answer(next, true);
            told.append(call + 1).append(". ").append(tell(next)).append(" = ").append(got).append('\n');
            count(next, want);
            if (!want.equals(got)) {
                Checks.tell(false, "run " + run + ", due is " + want + " at the end of\n" + told);
                return false;
            }
        }
        Checks.tell(true, "");
        return true;
    }

    /** The number of a call in NAMES, and its arguments. */
    private int[] draw() {
        int kind = below(100);
        if (kind < 40 && y.packets() == 80 && below(10) == 0) {
            return drawGrid();
        }
        if (kind < 40) {
            int lane = favouriteLane >= 0 && below(8) > 0 ? favouriteLane : odd(2);
            int source = odd(switches);
            // What goes to the opposite switch turns on its way, and circles need packets that turn.
            int goal = isCrowded && below(4) > 0 ? switches - 1 - source : odd(switches);
            return new int[] {1, source, goal, lane, odd(2), 0};
        }
        if (kind < 55) {
            return new int[] {2, below(60) == 0 ? below(54) - 2 : 1 + below(longestTicks), 0, 0, 0, 0};
        }
        if (kind == 55 && below(rareness) == 0) {
            return drawGrid();
        }
        if (kind < 58) {
            return new int[] {3, odd(switches), below(rareness) == 0 ? 1 : 0, 0, 0, 0};
        }
        if (kind < 60) {
            return new int[] {4, odd(switches), odd(4), odd(2), 0, 0};
        }
        if (kind < 61) {
            return new int[] {5, 0, 0, 0, 0, 0};
        }
        return drawQuestion();
    }

    private int[] drawGrid() {
        int bound = isCrowded ? 2 : 3;
        return new int[] {0, 2 + odd(bound), 2 + odd(bound), 1 + odd(bound), odd(4), 0};
    }

    private int[] drawQuestion() {
        int name = 6 + below(12);
        int first = name >= 12 ? odd(Math.max(1, y.packets())) : odd(switches);
        int second = name == 10 ? odd(5) : odd(4);
        return new int[] {name, first, second, odd(2), 0, 0};
    }

    private String answer(int[] c, boolean isOfTheClass) {
        try {
            int got = isOfTheClass ? ofTheClass(c) : ofTheReference(c);
            return Integer.toString(got);
        } catch (RuntimeException e) {
            return e.getClass().getName();
        }
    }

    private int ofTheClass(int[] c) {
        switch (c[0]) {
            case 0: return x.begin(c[1], c[2], c[3], c[4]);
            case 1: return x.send(c[1], c[2], c[3], c[4]);
            case 2: return x.run(c[1]);
            case 3: return x.pause(c[1], c[2] != 0) ? 1 : 0;
            case 4: return x.lose(c[1], c[2], c[3]);
            case 5: return x.recover();
            case 6: return x.tick();
            case 7: return x.packets();
            case 8: return x.arrived();
            case 9: return x.credits(c[1], c[2], c[3]);
            case 10: return x.inBuffer(c[1], c[2], c[3]);
            case 11: return x.gap(c[1]);
            case 12: return x.placeOf(c[1]);
            case 13: return x.hops(c[1]);
            case 14: return x.isMarked(c[1]) ? 1 : 0;
            case 15: return x.wants(c[1]);
            case 16: return x.circle();
            default: return x.mayCircle() ? 1 : 0;
        }
    }

    private int ofTheReference(int[] c) {
        switch (c[0]) {
            case 0: return y.begin(c[1], c[2], c[3], c[4]);
            case 1: return y.send(c[1], c[2], c[3], c[4]);
            case 2: return y.run(c[1]);
            case 3: return y.pause(c[1], c[2] != 0) ? 1 : 0;
            case 4: return y.lose(c[1], c[2], c[3]);
            case 5: return y.recover();
            case 6: return y.tick();
            case 7: return y.packets();
            case 8: return y.arrived();
            case 9: return y.credits(c[1], c[2], c[3]);
            case 10: return y.inBuffer(c[1], c[2], c[3]);
            case 11: return y.gap(c[1]);
            case 12: return y.placeOf(c[1]);
            case 13: return y.hops(c[1]);
            case 14: return y.isMarked(c[1]) ? 1 : 0;
            case 15: return y.wants(c[1]);
            case 16: return y.circle();
            default: return y.mayCircle() ? 1 : 0;
        }
    }

    private void count(int[] c, String want) {
        if (want.indexOf("Exception") >= 0) {
            return;
        }
        int answer = Integer.parseInt(want);
        mostPackets = Math.max(mostPackets, y.packets());
        switch (c[0]) {
            case 0: switches = answer; break;
            case 5: lostSeen += answer; break;
            case 11: widestGap = Math.max(widestGap, answer); break;
            case 14: marksSeen += answer; break;
            case 16:
                circlesSeen += answer > 0 ? 1 : 0;
                longestCircle = Math.max(longestCircle, answer);
                break;
            case 17: mayCirclesSeen += answer; break;
            default: break;
        }
    }

    private static String tell(int[] c) {
        return NAMES[c[0]] + "(" + c[1] + ", " + c[2] + ", " + c[3] + ", " + c[4] + ")";
    }

    /** A number below the bound, seldom one just beside it or far away. */
    private int odd(int bound) {
        int kind = below(150);
        switch (kind) {
            case 0: return -1;
            case 1: return bound;
            case 2: return below(2) == 0 ? Integer.MIN_VALUE : Integer.MAX_VALUE;
            default: return below(bound);
        }
    }

    private int below(int bound) {
        seed = seed * 6364136223846793005L + 1442695040888963407L;
        return (int) ((seed >>> 33) % bound);
    }
}
