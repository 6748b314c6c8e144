/** The sentences of the document that bound crowds and gaps, and the order in which packets of one tick go out. */
public final class MarksAndGapsTest {
    private MarksAndGapsTest() {
    }

    public static void main(String[] args) {
        for (int lane = 0; lane < 2; lane++) {
            crowdOfWaitingOnes(lane);
            crowdOfThoseThatCome(lane);
        }
        crowdInAllBuffers();
        crowdAfterAllWent();
        onlyThoseThatCame();
        onceMarked();
        crowdAtOtherSwitches();
        noGapAtFirst();
        for (int gap = 1; gap <= 16; gap++) {
            gapIsOver(gap);
            doubledOrOneLess(gap);
            outInTheSameTick(gap);
        }
        gapChangesWhenItGoesOut();
        gapOfTheSource();
        theLastTimeCounts();
        Checks.finish();
    }

    /** Packets that wait at switch 1 of 2 x 2, in its own input, for switch 3, which is paused. */
    private static Creditfabric waitingAtOne(int count, int lane, int delay) {
        Creditfabric x = Grids.grid(2, 2, 3, delay);
        x.pause(3, true);
        for (int i = 0; i < count; i++) {
            x.send(1, 3, i < 3 ? lane : 1 - lane, 0);
            x.run(1);
        }
        return x;
    }

    // ---- crowds

    private static void crowdOfWaitingOnes(int lane) {
        Checks.sentence("each packet that came over a link to a switch that has at least 4 packets then .. is marked");
        for (int waiting = 0; waiting <= 5; waiting++) {
            Creditfabric x = waitingAtOne(waiting, lane, 0);
            int packet = x.send(0, 1, lane, 0);
            Checks.due("not yet", false, x.isMarked(packet));
            x.run(1);
            Checks.due("came to " + waiting, waiting + 1 >= 4, x.isMarked(packet));
            for (int i = 0; i < waiting; i++) {
                Checks.due("waited there", false, x.isMarked(i));
            }
        }
    }

    private static void crowdOfThoseThatCome(int lane) {
        Checks.sentence("at least 4 packets then (those that came in the same tick count)");
        for (int coming = 0; coming <= 4; coming++) {
            for (int own = 0; own <= 2; own++) {
                Creditfabric x = Grids.grid(3, 3, 2, 0);
                for (int direction = 0; direction < 4; direction++) {
                    x.pause(Grids.behind(3, 3, 4, direction), true);
                }
                for (int i = 0; i < own; i++) {
                    x.send(4, 0, lane, i);
                    x.run(1);
                }
                for (int direction = 0; direction < coming; direction++) {
                    x.send(Grids.ahead(3, 3, 4, direction), 4, lane, 0);
                }
                x.run(1);
                for (int packet = 0; packet < own + coming; packet++) {
                    boolean isDue = packet >= own && own + coming >= 4;
                    Checks.due(coming + " came to " + own + ": " + packet, isDue, x.isMarked(packet));
                }
            }
        }
    }

    /** One in the own input and one in each of two links' buffers, in both lanes, then one more. */
    private static void crowdInAllBuffers() {
        Checks.sentence("at least 4 packets then, in all buffers together");
        Creditfabric x = Grids.grid(3, 3, 1, 0);
        for (int direction = 0; direction < 4; direction++) {
            x.pause(Grids.behind(3, 3, 4, direction), true);
        }
        x.send(4, 1, 1, 0);
        x.send(3, 5, 0, 0);
        x.send(1, 7, 1, 0);
        x.run(1);
        Checks.due("three", 0, x.isMarked(1) || x.isMarked(2) ? 1 : 0);
        x.send(7, 1, 0, 0);
        x.run(1);
        Checks.due("the fourth, in a buffer of its own", true, x.isMarked(3));
        Checks.due("one in each: own", 1, x.inBuffer(4, 4, 1));
        Checks.due("one in each: east", 1, x.inBuffer(4, 0, 0));
        Checks.due("one in each: south", 1, x.inBuffer(4, 1, 1));
        Checks.due("one in each: north", 1, x.inBuffer(4, 3, 0));
        Checks.due("who came before is not", 0, x.isMarked(1) || x.isMarked(2) ? 1 : 0);
    }

    private static void crowdAfterAllWent() {
        Checks.sentence("All packets that are chosen go at once .. Then each packet that came .. at least 4 packets "
            + "then");
        for (int waiting = 3; waiting <= 5; waiting++) {
            Creditfabric x = waitingAtOne(waiting, 0, 0);
            x.pause(3, false);
            int packet = x.send(0, 1, 1, 0);
            x.run(1);
            Checks.due("one went, one came, before " + waiting, waiting >= 4, x.isMarked(packet));
        }
        for (int waiting = 2; waiting <= 4; waiting++) {
            Creditfabric x = waitingAtOne(waiting, 0, 0);
            int first = x.send(0, 1, 1, 0);
            x.run(1);
            int second = x.send(0, 1, 1, 0);
            x.run(1);
            Checks.due("first to " + waiting, waiting >= 3, x.isMarked(first));
            Checks.due("the first went out, the second came", waiting >= 3, x.isMarked(second));
        }
    }

    private static void onlyThoseThatCame() {
        Checks.sentence("each packet that came over a link");
        Creditfabric x = waitingAtOne(2, 0, 0);
        int stays = x.send(0, 3, 0, 0);
        x.run(1);
        Checks.due("the third that came", false, x.isMarked(stays));
        int own = x.send(1, 3, 1, 0);
        x.run(5);
        Checks.due("sent at a crowd: came over no link", false, x.isMarked(own));
        Checks.due("came before it was a crowd", false, x.isMarked(stays));
        int comes = x.send(0, 3, 1, 0);
        x.run(1);
        Checks.due("the fifth that came", true, x.isMarked(comes));
        Checks.due("came before, again", false, x.isMarked(stays));
        Checks.due("came over no link, again", false, x.isMarked(own));
    }

    private static void onceMarked() {
        Checks.sentence("is marked (and stays so on its way, and when it is out)");
        Creditfabric x = Grids.grid(3, 2, 3, 0);
        x.pause(4, true);
        Grids.sendInARow(x, 3, 1, 4, 0);
        int packet = x.send(0, 2, 1, 0);
        Checks.due("ahead of the crowd", false, x.isMarked(packet));
        x.run(1);
        Checks.due("in the crowd", true, x.isMarked(packet));
        x.run(1);
        Checks.due("alone again", 2, x.placeOf(packet));
        Checks.due("alone again: marked", true, x.isMarked(packet));
        x.run(1);
        Checks.due("out", -1, x.placeOf(packet));
        Checks.due("out: marked", true, x.isMarked(packet));
        Checks.due("the gap of its source", 2, x.gap(0));
        x.begin(3, 2, 3, 0);
        x.send(0, 2, 1, 0);
        Checks.due("the same number in another grid", false, x.isMarked(0));
    }

    /** Four at one switch are no crowd for the neighbours. */
    private static void crowdAtOtherSwitches() {
        Checks.sentence("to a switch that has at least 4 packets");
        Creditfabric x = waitingAtOne(4, 0, 0);
        x.send(3, 2, 0, 0);
        x.send(0, 2, 0, 0);
        x.run(1);
        Checks.due("two came to 2", 2, x.inBuffer(2, 1, 0) + x.inBuffer(2, 2, 0));
        Checks.due("from 3", false, x.isMarked(4));
        Checks.due("from 0", false, x.isMarked(5));
    }

    // ---- gaps

    /** Switch 0 has the gap, three packets wait at switch 1 as a crowd, and all that was sent from 0 is out. */
    private static Creditfabric withGap(int gap, int delay) {
        Creditfabric x = waitingAtOne(3, 0, delay);
        if (gap > 1) {
            for (int i = 0; i < 4; i++) {
                x.send(0, 1, 1, 0);
                x.run(16);
            }
            for (int i = 16; i > gap; i--) {
                x.send(0, 2, 1, 0);
                x.run(16);
            }
        }
        Checks.due("the gap to begin with", gap, x.gap(0));
        return x;
    }

    private static void noGapAtFirst() {
        Checks.sentence("Each switch has a gap, 1 at first: it sends a packet only if it has not sent any, ..");
        Creditfabric x = Grids.grid(2, 2, 3, 0);
        for (int its = 0; its < 4; its++) {
            int source = its;
            Checks.due("gap", 1, x.gap(its));
            Checks.due("it has not sent any", its, x.send(its, 3 - its, 0, 0));
            Checks.state("0 ticks ago", () -> x.send(source, 3 - source, 1, 0));
        }
        x.run(1);
        for (int its = 0; its < 4; its++) {
            Checks.due("1 tick ago", 4 + its, x.send(its, 3 - its, 1, 0));
        }
    }

    private static void gapIsOver(int gap) {
        Checks.sentence(".. or the last time was at least as many ticks ago");
        for (int ago = gap > 1 ? gap - 1 : 0; ago <= gap + 1; ago++) {
            Creditfabric x = withGap(gap, 0);
            x.pause(2, true);
            x.run(1);
            x.send(0, 2, 1, 0);
            if (ago > 0) {
                x.run(ago);
            }
            Checks.due("nothing went out meanwhile", gap, x.gap(0));
            if (ago < gap) {
                Checks.state(ago + " ticks ago, gap " + gap, () -> x.send(0, 2, 0, 0));
                x.run(1);
            }
            int next = x.packets();
            Checks.due("at least " + ago + " ticks ago, gap " + gap, next, x.send(0, 2, 0, 0));
        }
    }

    private static void doubledOrOneLess(int gap) {
        Checks.sentence("the gap of its source is doubled, but at most 16, if the packet is marked; otherwise it "
            + "becomes 1 less, but at least 1");
        Creditfabric marked = withGap(gap, 1);
        marked.send(0, 1, 1, 0);
        Checks.due("one out", 1, marked.run(2));
        Checks.due("doubled from " + gap, Math.min(16, 2 * gap), marked.gap(0));
        Creditfabric unmarked = withGap(gap, 1);
        unmarked.send(0, 2, 1, 0);
        Checks.due("one out", 1, unmarked.run(2));
        Checks.due("one less than " + gap, Math.max(1, gap - 1), unmarked.gap(0));
        for (int its = 1; its < 4; its++) {
            Checks.due("the others have their own", 1, marked.gap(its));
            Checks.due("the others have their own", 1, unmarked.gap(its));
        }
    }

    /** Two packets of switch 0 go out in one tick, at 1 and at 2, and a crowd at one of these marks but one of them. */
    private static void outInTheSameTick(int gap) {
        Checks.sentence("(Packets that go out in one tick do so by rising numbers of switches.)");
        Creditfabric atOne = withGap(gap, 0);
        outAtOneAndTwo(atOne, gap);
        Checks.due("marked at 1, then not at 2", Math.max(1, Math.min(16, 2 * gap) - 1), atOne.gap(0));
        Creditfabric atTwo = withGap(gap, 0);
        atTwo.pause(3, false);
        atTwo.run(10);
        int before = atTwo.gap(0);
        Checks.due("only the crowd went", gap, before);
        atTwo.pause(3, true);
        Grids.sendInARow(atTwo, 3, 2, 3, 0);
        outAtOneAndTwo(atTwo, gap);
        Checks.due("not marked at 1, then marked at 2", Math.min(16, 2 * Math.max(1, gap - 1)), atTwo.gap(0));
    }

    /** The later one is sent to 1, so neither the order of sending nor that of numbers of packets is that of switches. */
    private static void outAtOneAndTwo(Creditfabric x, int gap) {
        x.pause(1, true);
        x.pause(2, true);
        x.run(1);
        int toTwo = x.send(0, 2, 1, 0);
        x.run(gap);
        int toOne = x.send(0, 1, 0, 0);
        // The one in lane 1 waits in a buffer of its own, so both go at once as soon as they may.
        x.pause(1, false);
        x.pause(2, false);
        Checks.due("none out", 0, x.run(1));
        Checks.due("at 1", 1, x.placeOf(toOne));
        Checks.due("at 2", 2, x.placeOf(toTwo));
        Checks.due("the gap is still as it was", gap, x.gap(0));
        Checks.due("both out", 2, x.run(1));
    }

    private static void gapChangesWhenItGoesOut() {
        Checks.sentence("When a packet goes out, the gap of its source is doubled");
        Creditfabric x = withGap(3, 0);
        x.send(0, 1, 1, 0);
        x.run(1);
        Checks.due("marked, but not yet out", true, x.isMarked(x.packets() - 1));
        Checks.due("so the gap is as it was", 3, x.gap(0));
        x.run(1);
        Checks.due("out", 6, x.gap(0));
        Checks.state("2 ticks ago", () -> x.send(0, 1, 1, 0));
        x.run(3);
        Checks.state("5 ticks ago", () -> x.send(0, 1, 1, 0));
        x.run(1);
        int next = x.packets();
        Checks.due("6 ticks ago", next, x.send(0, 1, 1, 0));
    }

    /** The gap that counts is that of the tick in which is sent, not that of the last time. */
    private static void gapOfTheSource() {
        Checks.sentence("Each switch has a gap .. the gap of its source");
        Creditfabric x = withGap(4, 0);
        int last = x.send(0, 3, 1, 1);
        x.run(1);
        Checks.due("at 2", 2, x.placeOf(last));
        Checks.due("the gap of a switch on its way is its own", 1, x.gap(2));
        x.pause(3, false);
        x.run(2);
        Checks.due("out", -1, x.placeOf(last));
        Checks.due("its source's", 3, x.gap(0));
        Checks.due("not its goal's", 1, x.gap(3));
        Checks.due("not that on its way", 1, x.gap(2));
        int next = x.packets();
        Checks.due("3 ticks ago, 4 were due before", next, x.send(0, 3, 1, 1));
    }

    private static void theLastTimeCounts() {
        Checks.sentence("the last time (not the first, nor a call that was refused)");
        Creditfabric x = withGap(5, 0);
        x.pause(2, true);
        x.send(0, 2, 0, 0);
        x.run(4);
        Checks.state("4 ticks ago", () -> x.send(0, 2, 0, 0));
        x.run(1);
        int next = x.packets();
        Checks.due("5 ticks ago, though a call was refused 1 tick ago", next, x.send(0, 2, 0, 0));
        x.run(4);
        Checks.state("9 and 4 ticks ago", () -> x.send(0, 2, 0, 0));
        x.run(1);
        Checks.due("10 and 5 ticks ago", next + 1, x.send(0, 2, 0, 0));
    }
}
