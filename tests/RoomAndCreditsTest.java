/** The sentences of the document that bound buffers, packets and credits: empty, full, one below and one above. */
public final class RoomAndCreditsTest {
    private RoomAndCreditsTest() {
    }

    public static void main(String[] args) {
        for (int room = 1; room <= 3; room++) {
            for (int lane = 0; lane < 2; lane++) {
                roomOfTheOwnInput(room, lane);
                roomOfALink(room, lane);
            }
            creditsAtFirst(room);
            loseDownToNone(room);
            everyCreditIsLost(room);
            noRoomWithoutACredit(room);
        }
        orderInABuffer();
        eightyPackets();
        eightyThatNeverWentOut();
        aCreditForEachPacket();
        noCreditForTheOwnInput();
        for (int delay = 0; delay <= 3; delay++) {
            for (int start = 0; start < 10; start++) {
                creditIsBack(delay, start);
            }
            goesOnInTheTickOfItsCredit(delay);
            manyCreditsOnTheirWay(delay);
            creditOfAPacketThatWentOn(delay);
            aFullBufferThatEmpties(delay);
            recoverAtEachTick(delay);
            recoverBesideAFullBuffer(delay);
        }
        loseWhatIsNotThere();
        Checks.finish();
    }

    // ---- room

    private static void roomOfTheOwnInput(int room, int lane) {
        Checks.sentence("send: Throws IllegalStateException if the buffer is full; it has room for some, 1 to 3");
        Creditfabric x = Grids.grid(2, 2, room, 0);
        for (int its = 0; its < 4; its++) {
            x.pause(its, true);
        }
        for (int its = 0; its < 4; its++) {
            fillOwnInput(x, room, its, lane);
        }
        for (int its = 0; its < 4; its++) {
            int source = its;
            Checks.state("full at " + its, () -> x.send(source, 3 - source, lane, 0));
            Checks.due("still full at " + its, room, x.inBuffer(its, 4, lane));
        }
        Checks.due("the other lane has room of its own", 4 * room, x.send(2, 1, 1 - lane, 0));
        x.pause(1, false);
        x.run(1);
        Checks.due("one below full again", room - 1, x.inBuffer(0, 4, lane));
        Checks.due("so another one goes in", 4 * room + 1, x.send(0, 1, lane, 0));
        Checks.due("full again", room, x.inBuffer(0, 4, lane));
    }

    private static void fillOwnInput(Creditfabric x, int room, int its, int lane) {
        for (int count = 0; count < room; count++) {
            Checks.due("before " + (count + 1) + " of " + room, count, x.inBuffer(its, 4, lane));
            Checks.due("packet " + (count + 1) + " of " + room, its * room + count, x.send(its, 3 - its, lane, 0));
            x.run(1);
        }
        Checks.due("full", room, x.inBuffer(its, 4, lane));
        Checks.due("the other lane is empty", 0, x.inBuffer(its, 4, 1 - lane));
    }

    /** Packets from 0 to 3 pile up in the buffer of the link from 0 to 1 while 3 is paused. */
    private static Creditfabric pileUp(int room, int lane, int delay, int count) {
        Creditfabric x = Grids.grid(2, 2, room, delay);
        x.pause(3, true);
        for (int i = 0; i < count; i++) {
            x.send(0, 3, lane, 0);
            x.run(1);
        }
        return x;
    }

    private static void roomOfALink(int room, int lane) {
        Checks.sentence("A packet that goes over the link takes one; the switch ahead of it has credits, at first as "
            + "many as a buffer has room");
        for (int count = 0; count <= 2 * room; count++) {
            Creditfabric x = pileUp(room, lane, 0, count);
            int came = Math.min(room, count);
            Checks.due("of " + count + " came", came, x.inBuffer(1, 0, lane));
            Checks.due("of " + count + " wait", count - came, x.inBuffer(0, 4, lane));
            Checks.due("credits left after " + count, room - came, x.credits(0, 0, lane));
            Checks.due("credits of the other lane", room, x.credits(0, 0, 1 - lane));
            Checks.due("nothing is lost", 0, x.recover());
        }
    }

    private static void orderInABuffer() {
        Checks.sentence("A buffer has packets in their order.");
        Creditfabric x = pileUp(3, 1, 0, 6);
        for (int packet = 0; packet < 6; packet++) {
            Checks.due("piled up: " + packet, packet < 3 ? 1 : 0, x.placeOf(packet));
        }
        x.pause(3, false);
        for (int packet = 0; packet < 3; packet++) {
            x.run(1);
            Checks.due("went on: " + packet, 3, x.placeOf(packet));
            Checks.due("behind it: " + (packet + 1), packet < 2 ? 1 : x.placeOf(3), x.placeOf(packet + 1));
        }
        x.run(20);
        Checks.due("all went out", 6, x.arrived());
        Creditfabric mixed = Grids.grid(2, 2, 3, 0);
        mixed.pause(1, true);
        mixed.send(0, 1, 0, 0);
        mixed.run(1);
        mixed.send(0, 2, 0, 0);
        Checks.due("who is not first does not go, even where it could", 0, mixed.run(50));
        Checks.due("it stays behind the first", 0, mixed.placeOf(1));
        mixed.pause(1, false);
        mixed.run(1);
        Checks.due("the first goes, the second not in the same tick", 0, mixed.placeOf(1));
        mixed.run(1);
        Checks.due("then it is the first itself", 2, mixed.placeOf(1));
    }

    // ---- at most 80 packets

    private static void eightyPackets() {
        Checks.sentence("Packets are numbered from 0 on, at most 80.");
        Creditfabric x = Grids.grid(2, 2, 1, 0);
        for (int packet = 0; packet < 80; packet++) {
            Checks.due("sent before " + packet, packet, x.packets());
            Checks.due("number", packet, x.send(0, 1, 0, 0));
            x.run(2);
        }
        Checks.due("eighty", 80, x.packets());
        Checks.due("all went out", 80, x.arrived());
        Checks.due("the own input is empty", 0, x.inBuffer(0, 4, 0));
        for (int its = 0; its < 4; its++) {
            int source = its;
            Checks.state("the 81st, from " + its, () -> x.send(source, 3 - source, 1, 0));
        }
        Checks.due("still eighty", 80, x.packets());
        Checks.due("the last one", -1, x.placeOf(79));
        Checks.index("none behind it", () -> x.placeOf(80));
        Checks.due("begun anew", 4, x.begin(2, 2, 1, 0));
        Checks.due("none", 0, x.packets());
        Checks.due("numbered from 0 on", 0, x.send(0, 1, 0, 0));
    }

    private static void eightyThatNeverWentOut() {
        Checks.sentence("send: Throws IllegalStateException if .. 80 packets were sent");
        Creditfabric x = Grids.grid(4, 4, 3, 0);
        for (int its = 0; its < 16; its++) {
            x.pause(its, true);
        }
        for (int packet = 0; packet < 80; packet++) {
            Checks.due("number", packet, x.send(packet % 16, 15 - packet % 16, packet / 16 % 2, 0));
            if (packet % 16 == 15) {
                x.run(1);
            }
        }
        Checks.due("none went out", 0, x.arrived());
        Checks.due("eighty wait", 80, x.packets());
        Checks.due("the own input has room left", 2, x.inBuffer(0, 4, 1));
        Checks.state("the 81st", () -> x.send(0, 15, 1, 0));
        Checks.due("the last one is where it was", 15, x.placeOf(79));
    }

    // ---- credits

    private static void creditsAtFirst(int room) {
        Checks.sentence("credits, at first as many as a buffer has room; the same for all");
        Creditfabric x = Grids.grid(4, 3, room, 3);
        for (int its = 0; its < 12; its++) {
            for (int direction = 0; direction < 4; direction++) {
                if (Grids.behind(4, 3, its, direction) != Grids.NONE) {
                    Checks.due("lane 0", room, x.credits(its, direction, 0));
                    Checks.due("lane 1", room, x.credits(its, direction, 1));
                }
            }
        }
        x.run(50);
        Checks.due("nor does time make more", room, x.credits(11, 2, 1));
    }

    private static void aCreditForEachPacket() {
        Checks.sentence("A packet that goes over the link takes one.");
        Creditfabric x = Grids.grid(3, 2, 1, 3);
        x.send(0, 5, 0, 0);
        int[][] links = {{0, 0}, {1, 0}, {2, 1}};
        for (int tick = 0; tick < 3; tick++) {
            Checks.due("before", 1, x.credits(links[tick][0], links[tick][1], 0));
            x.run(1);
            Checks.due("taken", 0, x.credits(links[tick][0], links[tick][1], 0));
        }
        Checks.due("the links back are left alone", 1, x.credits(1, 2, 0));
        Checks.due("the other lane is left alone", 1, x.credits(0, 0, 1));
    }

    private static void noCreditForTheOwnInput() {
        Checks.sentence("When a packet leaves a buffer of a link in the tick t, a credit is on its way back");
        Creditfabric x = Grids.grid(2, 2, 2, 0);
        x.send(0, 1, 1, 0);
        x.run(1);
        Checks.due("it left its own input and took a credit", 1, x.credits(0, 0, 1));
        x.run(10);
        for (int its = 0; its < 4; its++) {
            for (int direction = 0; direction < 4; direction++) {
                if (Grids.behind(2, 2, its, direction) != Grids.NONE) {
                    Checks.due("as many as at first", 2, x.credits(its, direction, 1));
                }
            }
        }
        Checks.due("none too many, none too few", 0, x.recover());
    }

    /** The packet leaves the link's buffer in the tick start + 1. */
    private static void creditIsBack(int delay, int start) {
        Checks.sentence("a credit is .. there at the beginning of the tick t + 1 + delay, the delay being 0 to 3 ticks");
        Creditfabric x = Grids.grid(2, 2, 3, delay);
        if (start > 0) {
            x.run(start);
        }
        x.send(0, 1, 0, 0);
        for (int tick = start; tick < start + 10; tick++) {
            x.run(1);
            boolean isBack = tick >= start + 1 + 1 + delay;
            Checks.due("delay " + delay + ", in the tick " + tick, isBack ? 3 : 2, x.credits(0, 0, 0));
        }
    }

    /** Of room 1 the second packet needs the very credit of the first. */
    private static void goesOnInTheTickOfItsCredit(int delay) {
        Checks.sentence("First the credits come back that are due.");
        Creditfabric x = Grids.grid(2, 2, 1, delay);
        x.send(0, 1, 1, 0);
        x.run(1);
        x.send(0, 1, 1, 0);
        x.run(1 + delay);
        Checks.due("one tick before, delay " + delay, 0, x.placeOf(1));
        Checks.due("one tick before there is none", 0, x.credits(0, 0, 1));
        x.run(1);
        Checks.due("in the tick of its credit, delay " + delay, 1, x.placeOf(1));
        Checks.due("and the credit is taken", 0, x.credits(0, 0, 1));
    }

    /** A packet goes over the link in each tick from 0 on while credits last, and out in the tick after. */
    private static void manyCreditsOnTheirWay(int delay) {
        Checks.sentence("a credit is on its way back, and is there at the beginning of the tick t + 1 + delay");
        Creditfabric x = Grids.grid(2, 2, 3, delay);
        boolean[] isGone = new boolean[30];
        int sent = 0;
        int waiting = 0;
        int credits = 3;
        for (int tick = 0; tick < 20; tick++) {
            if (sent < 9 && waiting < 3) {
                x.send(0, 1, 0, 0);
                sent++;
                waiting++;
            }
            x.run(1);
            credits += tick >= 2 + delay && isGone[tick - 2 - delay] ? 1 : 0;
            if (credits > 0 && waiting > 0) {
                isGone[tick] = true;
                waiting--;
                credits--;
            }
            Checks.due("delay " + delay + ", tick " + tick, credits, x.credits(0, 0, 0));
            Checks.due("waiting, tick " + tick, waiting, x.inBuffer(0, 4, 0));
        }
        Checks.due("all went out", 9, x.arrived());
        Checks.due("all credits are back", 3, x.credits(0, 0, 0));
    }

    private static void creditOfAPacketThatWentOn(int delay) {
        Checks.sentence("When a packet leaves a buffer of a link in the tick t (over another link)");
        Creditfabric x = Grids.grid(4, 2, 1, delay);
        x.send(0, 3, 0, 0);
        for (int tick = 0; tick < 12; tick++) {
            x.run(1);
            for (int link = 0; link < 3; link++) {
                boolean isAway = tick >= link && tick < link + 2 + delay;
                Checks.due("link from " + link + ", tick " + tick, isAway ? 0 : 1, x.credits(link, 0, 0));
            }
        }
    }

    /** Of the full buffer one goes on a tick, its credit comes late, and the row behind it moves up. */
    private static void aFullBufferThatEmpties(int delay) {
        Checks.sentence("over a link only if there is a credit for the lane");
        Creditfabric x = pileUp(2, 0, delay, 4);
        Checks.due("full", 2, x.inBuffer(1, 0, 0));
        Checks.due("no credit", 0, x.credits(0, 0, 0));
        x.pause(3, false);
        x.run(1);
        Checks.due("one below full, yet no credit", 1, x.inBuffer(1, 0, 0));
        Checks.due("none moves up in the same tick", 2, x.inBuffer(0, 4, 0));
        if (delay > 0) {
            x.run(delay);
        }
        Checks.due("none moves up before its credit", 2, x.inBuffer(0, 4, 0));
        x.run(1);
        Checks.due("one moves up with its credit", 1, x.inBuffer(0, 4, 0));
        x.run(30);
        Checks.due("all went out", 4, x.arrived());
    }

    private static void noRoomWithoutACredit(int room) {
        Checks.sentence("over a link only if there is a credit for the lane (lost ones are not there)");
        Creditfabric x = Grids.grid(2, 2, room, 0);
        for (int i = 0; i < room; i++) {
            x.lose(0, 0, 0);
        }
        x.send(0, 1, 0, 0);
        Checks.due("no credit, though the buffer is empty", 0, x.run(50));
        Checks.due("it waits", 0, x.placeOf(0));
        Checks.due("recovered", room, x.recover());
        Checks.due("it goes", 1, x.run(2));
    }

    // ---- promises 6 and 7

    private static void loseDownToNone(int room) {
        Checks.sentence("lose: Returns how many credits are there then; IllegalStateException if there is none");
        Creditfabric x = Grids.grid(2, 2, room, 0);
        for (int left = room - 1; left >= 0; left--) {
            Checks.due("left", left, x.lose(3, 2, 1));
            Checks.due("credits", left, x.credits(3, 2, 1));
        }
        Checks.state("none left", () -> x.lose(3, 2, 1));
        Checks.due("none still", 0, x.credits(3, 2, 1));
        Checks.due("the other lane", room, x.credits(3, 2, 0));
        Checks.due("recovered", room, x.recover());
        Checks.due("as at first", room, x.credits(3, 2, 1));
        Checks.due("lost again", room - 1, x.lose(3, 2, 1));
    }

    private static void loseWhatIsNotThere() {
        Checks.sentence("lose: Throws IllegalStateException if there is no credit there");
        Creditfabric x = Grids.grid(2, 2, 1, 3);
        x.send(0, 1, 0, 0);
        x.run(1);
        Checks.state("it is with the packet in the buffer", () -> x.lose(0, 0, 0));
        x.run(1);
        for (int tick = 0; tick < 4; tick++) {
            Checks.due("tick", 2 + tick, x.tick());
            Checks.state("it is on its way back", () -> x.lose(0, 0, 0));
            x.run(1);
        }
        Checks.due("it is there", 0, x.lose(0, 0, 0));
        Checks.state("it is lost", () -> x.lose(0, 0, 0));
        Checks.due("but one was lost", 1, x.recover());
    }

    private static void everyCreditIsLost(int room) {
        Checks.sentence("recover: Recovers all lost credits; returns how many were lost.");
        Creditfabric x = Grids.grid(4, 4, room, 0);
        Checks.due("none was lost", 0, x.recover());
        int lost = 0;
        for (int its = 0; its < 16; its++) {
            for (int direction = 0; direction < 4; direction++) {
                if (Grids.behind(4, 4, its, direction) != Grids.NONE) {
                    for (int i = 0; i < 2 * room; i++) {
                        x.lose(its, direction, i % 2);
                        lost++;
                    }
                }
            }
        }
        Checks.due("all were lost", lost, x.recover());
        Checks.due("96 links and lanes", 96 * room, lost);
        Checks.due("none was lost any more", 0, x.recover());
        for (int its = 0; its < 16; its++) {
            for (int direction = 0; direction < 4; direction++) {
                if (Grids.behind(4, 4, its, direction) != Grids.NONE) {
                    Checks.due("as at first", room, x.credits(its, direction, its % 2));
                }
            }
        }
    }

    /** A packet goes from 0 over 1 to 3; in each tick one credit of each of its links is lost, if one is there. */
    private static void recoverAtEachTick(int delay) {
        Checks.sentence("of each link and lane there are as many as the room of a buffer, less the packets in the "
            + "buffer, less the credits on their way back");
        for (int until = 0; until <= 4 + delay; until++) {
            Creditfabric x = Grids.grid(2, 2, 2, delay);
            x.send(0, 3, 1, 0);
            if (until > 0) {
                x.run(until);
            }
            boolean isFirstAway = until >= 1 && until < 3 + delay;
            boolean isSecondAway = until >= 2 && until < 4 + delay;
            int first = isFirstAway ? 1 : 2;
            int second = isSecondAway ? 1 : 2;
            Checks.due("of the first link, tick " + until, first - 1, x.lose(0, 0, 1));
            Checks.due("of the second link, tick " + until, second - 1, x.lose(1, 1, 1));
            Checks.due("two were lost, tick " + until, 2, x.recover());
            Checks.due("first link, tick " + until, first, x.credits(0, 0, 1));
            Checks.due("second link, tick " + until, second, x.credits(1, 1, 1));
            Checks.due("none was lost any more", 0, x.recover());
            x.run(10);
            Checks.due("in the end all of the first link", 2, x.credits(0, 0, 1));
            Checks.due("in the end all of the second link", 2, x.credits(1, 1, 1));
        }
    }

    private static void recoverBesideAFullBuffer(int delay) {
        Checks.sentence("recover: as many as the room of a buffer, less the packets in the buffer (a full one)");
        Creditfabric x = pileUp(3, 0, delay, 3);
        Checks.due("full: none was lost", 0, x.recover());
        Checks.due("full: none is there", 0, x.credits(0, 0, 0));
        x.pause(3, false);
        x.run(1);
        Checks.due("one on its way back: none was lost", 0, x.recover());
        Checks.due("one on its way back: none is there", 0, x.credits(0, 0, 0));
        x.run(10);
        Checks.due("empty: all are there", 3, x.credits(0, 0, 0));
        Checks.due("empty: none was lost", 0, x.recover());
    }
}
