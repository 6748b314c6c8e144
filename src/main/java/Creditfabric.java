/** A lossless fabric of switches in a grid whose packets go on only with credits. */
public final class Creditfabric {
    public static final int NONE = -1;

    private static final int MOST_SWITCHES = 16;
    private static final int MOST_PACKETS = 80;
    private static final int MOST_ROOM = 3;
    private static final int MOST_DELAY = 3;
    private static final int MOST_TICKS = 50;
    private static final int LANES = 2;
    private static final int EAST = 0;
    private static final int SOUTH = 1;
    private static final int WEST = 2;
    private static final int NORTH = 3;
    private static final int DIRECTIONS = 4;
    private static final int OWN = 4;
    private static final int OUT = 4;
    private static final int OUTPUTS = 5;
    private static final int RING = 10;
    private static final int MOST_BUFFERS = MOST_SWITCHES * RING;
    private static final int CROWD = 4;

    private final Grid grid = new Grid();
    private final Packets traffic = new Packets(grid);
    private final Buffers buffers = new Buffers();
    private final Credits purse = new Credits();
    private final Senders senders = new Senders();
    private final Circles circles = new Circles(grid, traffic, buffers);
    private final Row paused = new Row(MOST_SWITCHES);
    private final Row turns = new Row(MOST_SWITCHES * OUTPUTS);
    private final Row ready = new Row(OUTPUTS);
    private final Row chosen = new Row(MOST_SWITCHES * OUTPUTS);
    private int chosenCount;
    private int now;

    public Creditfabric() {
        layAnew(2, 2, 1, 0);
    }

    // ---- what is done

    public int begin(int columns, int rows, int room, int delay) throws IllegalArgumentException {
        if (columns < 2 || columns > 4 || rows < 2 || rows > 4) {
            throw new IllegalArgumentException("a grid has 2 to 4 columns and 2 to 4 rows");
        }
        if (room < 1 || room > MOST_ROOM) {
            throw new IllegalArgumentException("a buffer has room for 1 to 3 packets");
        }
        if (delay < 0 || delay > MOST_DELAY) {
            throw new IllegalArgumentException("the delay is 0 to 3 ticks");
        }
        layAnew(columns, rows, room, delay);
        return grid.size();
    }

    public int send(int source, int goal, int lane, int mode)
            throws IndexOutOfBoundsException, IllegalArgumentException, IllegalStateException {
        checkSwitch(source);
        checkSwitch(goal);
        if (source == goal) {
            throw new IllegalArgumentException("the goal is the source");
        }
        checkLane(lane);
        if (mode != 0 && mode != 1) {
            throw new IllegalArgumentException("the mode is 0 or 1");
        }
        int buffer = bufferOf(source, OWN, lane);
        if (buffers.isFull(buffer)) {
            throw new IllegalStateException("the buffer is full");
        }
        if (!senders.isReady(source, now)) {
            throw new IllegalStateException("the gap is not over");
        }
        if (traffic.count >= MOST_PACKETS) {
            throw new IllegalStateException("80 packets were sent");
        }
        int packet = traffic.add(source, goal, lane, mode);
        buffers.append(buffer, packet);
        senders.note(source, now);
        return packet;
    }

    public int run(int ticks) throws IllegalArgumentException {
        if (ticks < 1 || ticks > MOST_TICKS) {
            throw new IllegalArgumentException("1 to 50 ticks are run at once");
        }
        int before = traffic.gone;
        for (int done = 0; done < ticks; done++) {
            runOne();
        }
        return traffic.gone - before;
    }

    public boolean pause(int its, boolean isPaused) throws IndexOutOfBoundsException {
        checkSwitch(its);
        boolean was = paused.at(its) != 0;
        paused.put(its, isPaused ? 1 : 0);
        return was;
    }

    public int lose(int its, int direction, int lane)
            throws IndexOutOfBoundsException, IllegalArgumentException, IllegalStateException {
        checkLink(its, direction);
        checkLane(lane);
        int buffer = bufferBehind(its, direction, lane);
        if (purse.there(buffer) <= 0) {
            throw new IllegalStateException("there is no credit to lose");
        }
        purse.take(buffer);
        return purse.there(buffer);
    }

    public int recover() {
        int lost = 0;
        for (int its = 0; its < grid.size(); its++) {
            for (int place = 0; place < LANES * DIRECTIONS; place++) {
                int buffer = its * RING + place;
                lost += purse.settle(buffer, buffers.free(buffer));
            }
        }
        return lost;
    }

    // ---- what is asked: the grid

    public int tick() {
        return now;
    }

    public int packets() {
        return traffic.count;
    }

    public int arrived() {
        return traffic.gone;
    }

    public int credits(int its, int direction, int lane) throws IndexOutOfBoundsException, IllegalArgumentException {
        checkLink(its, direction);
        checkLane(lane);
        return purse.there(bufferBehind(its, direction, lane));
    }

    public int inBuffer(int its, int input, int lane) throws IndexOutOfBoundsException, IllegalArgumentException {
        checkSwitch(its);
        if (input < 0 || input > OWN) {
            throw new IllegalArgumentException("an input is 0 to 4");
        }
        checkLane(lane);
        return buffers.size(bufferOf(its, input, lane));
    }

    public int gap(int its) throws IndexOutOfBoundsException {
        checkSwitch(its);
        return senders.gapOf(its);
    }

    // ---- what is asked: packets

    public int placeOf(int packet) throws IndexOutOfBoundsException {
        checkPacket(packet);
        return traffic.places.at(packet);
    }

    public int hops(int packet) throws IndexOutOfBoundsException {
        checkPacket(packet);
        return traffic.hopsGone.at(packet);
    }

    public boolean isMarked(int packet) throws IndexOutOfBoundsException {
        checkPacket(packet);
        return traffic.marks.at(packet) != 0;
    }

    public int wants(int packet) throws IndexOutOfBoundsException {
        checkPacket(packet);
        return traffic.outputOf(packet);
    }

    // ---- what is asked: circles

    public int circle() {
        return circles.countWaiting();
    }

    public boolean mayCircle() {
        return circles.hangsTogether();
    }

    // ---- what is tested before a call does anything

    private void checkSwitch(int its) {
        if (!grid.has(its)) {
            throw new IndexOutOfBoundsException("there is no such switch");
        }
    }

    private void checkLink(int its, int direction) {
        checkSwitch(its);
        if (grid.behind(its, direction) == NONE) {
            throw new IndexOutOfBoundsException("there is no link in this direction");
        }
    }

    private void checkPacket(int packet) {
        if (packet < 0 || packet >= traffic.count) {
            throw new IndexOutOfBoundsException("there is no such packet");
        }
    }

    private static void checkLane(int lane) {
        if (lane != 0 && lane != 1) {
            throw new IllegalArgumentException("the lane is 0 or 1");
        }
    }

    // ---- how a grid begins and a tick runs

    private void layAnew(int columns, int rows, int room, int delay) {
        grid.lay(columns, rows);
        traffic.clear();
        buffers.clear(room);
        purse.fill(room, delay);
        senders.clear();
        paused.fill(0);
        turns.fill(0);
        now = 0;
    }

    private void runOne() {
        purse.comeBack(now);
        chosenCount = 0;
        // All are chosen before one goes: a packet that came this tick must not go on in it.
        for (int its = 0; its < grid.size(); its++) {
            chooseAt(its);
        }
        // They were chosen by rising switches, so those that go out do so in that order.
        for (int i = 0; i < chosenCount; i++) {
            move(chosen.at(i));
        }
        for (int i = 0; i < chosenCount; i++) {
            markInCrowd(chosen.at(i));
        }
        now++;
    }

    private void chooseAt(int its) {
        ready.fill(0);
        for (int place = 0; place < RING; place++) {
            int packet = buffers.first(its * RING + place);
            if (packet != NONE) {
                int output = traffic.outputOf(packet);
                if (canGo(its, output, traffic.lanes.at(packet))) {
                    ready.put(output, ready.at(output) | 1 << place);
                }
            }
        }
        for (int output = 0; output < OUTPUTS; output++) {
            if (ready.at(output) != 0) {
                takeTurn(its, output, ready.at(output));
            }
        }
    }

    private boolean canGo(int its, int output, int lane) {
        if (output == OUT) {
            return true;
        }
        int behind = grid.behind(its, output);
        return behind != NONE && paused.at(behind) == 0 && purse.there(bufferOf(behind, output, lane)) > 0;
    }

    /** Chooses the first of the ready places of the ring, told by their bits, from the output's next buffer on. */
    private void takeTurn(int its, int output, int readyPlaces) {
        int turn = its * OUTPUTS + output;
        int place = turns.at(turn);
        for (int step = 0; step < RING; step++) {
            int next = place + 1 < RING ? place + 1 : 0;
            if ((readyPlaces >> place & 1) != 0) {
                chosen.put(chosenCount, buffers.first(its * RING + place));
                chosenCount++;
                turns.put(turn, next);
                return;
            }
            place = next;
        }
    }

    private void move(int packet) {
        int output = traffic.outputOf(packet);
        int its = traffic.places.at(packet);
        int input = traffic.inputs.at(packet);
        int lane = traffic.lanes.at(packet);
        buffers.removeFirst(bufferOf(its, input, lane));
        if (input != OWN) {
            purse.giveBack(bufferOf(its, input, lane), now);
        }
        if (output == OUT) {
            traffic.goOut(packet);
            senders.adapt(traffic.sources.at(packet), traffic.marks.at(packet) != 0);
            return;
        }
        int behind = grid.behind(its, output);
        purse.take(bufferOf(behind, output, lane));
        buffers.append(bufferOf(behind, output, lane), packet);
        traffic.goOver(packet, behind, output);
    }

    private void markInCrowd(int packet) {
        int its = traffic.places.at(packet);
        if (its != NONE && buffers.load(its) >= CROWD) {
            traffic.marks.put(packet, 1);
        }
    }

    // ---- how buffers are numbered; a link and lane bears the number of its buffer

    private static int bufferOf(int its, int input, int lane) {
        return its * RING + LANES * input + lane;
    }

    private int bufferBehind(int its, int direction, int lane) {
        return bufferOf(grid.behind(its, direction), direction, lane);
    }

    /** Numbers in a row; beside its ends nothing is written, and 0 is read. */
    private static final class Row {
        private final int[] numbers;

        Row(int length) {
            numbers = new int[length > 0 ? length : 0];
        }

        int at(int index) {
            return index >= 0 && index < numbers.length ? numbers[index] : 0;
        }

        void put(int index, int number) {
            if (index >= 0 && index < numbers.length) {
                numbers[index] = number;
            }
        }

        void add(int index, int more) {
            put(index, at(index) + more);
        }

        void fill(int number) {
            for (int i = 0; i < numbers.length; i++) {
                numbers[i] = number;
            }
        }
    }

    /** Where the switches are and which way leads to a goal. */
    private static final class Grid {
        private final Row columnOf = new Row(MOST_SWITCHES);
        private final Row rowOf = new Row(MOST_SWITCHES);
        private int columns;
        private int rows;

        void lay(int newColumns, int newRows) {
            columns = newColumns;
            rows = newRows;
            for (int row = 0; row < rows; row++) {
                for (int column = 0; column < columns; column++) {
                    columnOf.put(row * columns + column, column);
                    rowOf.put(row * columns + column, row);
                }
            }
        }

        int size() {
            return columns * rows;
        }

        boolean has(int its) {
            return its >= 0 && its < size();
        }

        /** The switch behind the link in a direction; NONE if there is no such link. */
        int behind(int its, int direction) {
            switch (direction) {
                case EAST:
                    return columnOf.at(its) + 1 < columns ? its + 1 : NONE;
                case SOUTH:
                    return rowOf.at(its) + 1 < rows ? its + columns : NONE;
                case WEST:
                    return columnOf.at(its) > 0 ? its - 1 : NONE;
                case NORTH:
                    return rowOf.at(its) > 0 ? its - columns : NONE;
                default:
                    return NONE;
            }
        }

        int outputTowards(int its, int goal, int mode) {
            int alongRow = stepTowards(columnOf.at(its), columnOf.at(goal), EAST, WEST);
            int alongColumn = stepTowards(rowOf.at(its), rowOf.at(goal), SOUTH, NORTH);
            if (mode == 0) {
                return alongRow != OUT ? alongRow : alongColumn;
            }
            return alongColumn != OUT ? alongColumn : alongRow;
        }

        private static int stepTowards(int from, int to, int forth, int back) {
            if (from == to) {
                return OUT;
            }
            return from < to ? forth : back;
        }
    }

    /** What is known of each packet by its number. */
    private static final class Packets {
        private final Grid grid;
        private final Row sources = new Row(MOST_PACKETS);
        private final Row goals = new Row(MOST_PACKETS);
        private final Row lanes = new Row(MOST_PACKETS);
        private final Row modes = new Row(MOST_PACKETS);
        private final Row places = new Row(MOST_PACKETS);
        private final Row inputs = new Row(MOST_PACKETS);
        private final Row hopsGone = new Row(MOST_PACKETS);
        private final Row marks = new Row(MOST_PACKETS);
        private int count;
        private int gone;

        Packets(Grid itsGrid) {
            grid = itsGrid;
        }

        void clear() {
            count = 0;
            gone = 0;
        }

        int add(int source, int goal, int lane, int mode) {
            int packet = count;
            sources.put(packet, source);
            goals.put(packet, goal);
            lanes.put(packet, lane);
            modes.put(packet, mode);
            places.put(packet, source);
            inputs.put(packet, OWN);
            hopsGone.put(packet, 0);
            marks.put(packet, 0);
            count++;
            return packet;
        }

        int outputOf(int packet) {
            int its = places.at(packet);
            return its == NONE ? NONE : grid.outputTowards(its, goals.at(packet), modes.at(packet));
        }

        void goOver(int packet, int behind, int direction) {
            places.put(packet, behind);
            inputs.put(packet, direction);
            hopsGone.add(packet, 1);
        }

        void goOut(int packet) {
            places.put(packet, NONE);
            gone++;
        }
    }

    /** The packets in each buffer, in their order. */
    private static final class Buffers {
        private final Row slots = new Row(MOST_BUFFERS * MOST_ROOM);
        private final Row sizes = new Row(MOST_BUFFERS);
        private int room;

        void clear(int newRoom) {
            room = newRoom;
            sizes.fill(0);
        }

        int size(int buffer) {
            return sizes.at(buffer);
        }

        int free(int buffer) {
            return room - sizes.at(buffer);
        }

        boolean isFull(int buffer) {
            return sizes.at(buffer) >= room;
        }

        int first(int buffer) {
            return sizes.at(buffer) > 0 ? slots.at(buffer * MOST_ROOM) : NONE;
        }

        void append(int buffer, int packet) {
            if (!isFull(buffer)) {
                slots.put(buffer * MOST_ROOM + sizes.at(buffer), packet);
                sizes.add(buffer, 1);
            }
        }

        void removeFirst(int buffer) {
            if (sizes.at(buffer) > 0) {
                int start = buffer * MOST_ROOM;
                for (int i = start + 1; i < start + sizes.at(buffer); i++) {
                    slots.put(i - 1, slots.at(i));
                }
                sizes.add(buffer, -1);
            }
        }

        /** How many packets a switch has in all its buffers. */
        int load(int its) {
            int sum = 0;
            for (int place = 0; place < RING; place++) {
                sum += sizes.at(its * RING + place);
            }
            return sum;
        }
    }

    /** The credits of each link and lane, by the number of the buffer that they are for. */
    private static final class Credits {
        // A credit is under way for 1 to 4 ticks, and those of a tick are taken up before new ones set out in it.
        private static final int ROUNDS = 4;

        private final Row there = new Row(MOST_BUFFERS);
        private final Row coming = new Row(MOST_BUFFERS * ROUNDS);
        private int delay;
        private int comingInAll;

        void fill(int room, int newDelay) {
            delay = newDelay;
            there.fill(room);
            coming.fill(0);
            comingInAll = 0;
        }

        int there(int buffer) {
            return there.at(buffer);
        }

        void take(int buffer) {
            there.add(buffer, -1);
        }

        void giveBack(int buffer, int tick) {
            coming.add(slotOf(buffer, tick + 1 + delay), 1);
            comingInAll++;
        }

        void comeBack(int tick) {
            if (comingInAll == 0) {
                return;
            }
            for (int buffer = 0; buffer < MOST_BUFFERS; buffer++) {
                int slot = slotOf(buffer, tick);
                int due = coming.at(slot);
                there.add(buffer, due);
                coming.put(slot, 0);
                comingInAll -= due;
            }
        }

        /** Makes good what a link and lane has lost, and returns how much that was. */
        int settle(int buffer, int free) {
            int due = free;
            for (int round = 0; round < ROUNDS; round++) {
                due -= coming.at(slotOf(buffer, round));
            }
            int lost = due - there.at(buffer);
            there.put(buffer, due);
            return lost;
        }

        private static int slotOf(int buffer, int tick) {
            return buffer * ROUNDS + (tick & ROUNDS - 1);
        }
    }

    /** How long each switch waits between the packets that it sends. */
    private static final class Senders {
        private static final int MOST_GAP = 16;

        private final Row gaps = new Row(MOST_SWITCHES);
        private final Row lastTicks = new Row(MOST_SWITCHES);

        void clear() {
            gaps.fill(1);
            lastTicks.fill(NONE);
        }

        int gapOf(int its) {
            return gaps.at(its);
        }

        boolean isReady(int its, int tick) {
            int last = lastTicks.at(its);
            return last == NONE || tick - last >= gaps.at(its);
        }

        void note(int its, int tick) {
            lastTicks.put(its, tick);
        }

        void adapt(int its, boolean isSlower) {
            int old = gaps.at(its);
            gaps.put(its, isSlower ? Math.min(MOST_GAP, 2 * old) : Math.max(1, old - 1));
        }
    }

    /** Finds circles of buffers: those that wait now, and those that could. */
    private static final class Circles {
        private final Grid grid;
        private final Packets traffic;
        private final Buffers buffers;
        private final Row awaited = new Row(MOST_BUFFERS);
        private final Row hangings = new Row(MOST_BUFFERS);

        Circles(Grid itsGrid, Packets itsTraffic, Buffers itsBuffers) {
            grid = itsGrid;
            traffic = itsTraffic;
            buffers = itsBuffers;
        }

        int countWaiting() {
            int last = grid.size() * RING;
            for (int buffer = 0; buffer < last; buffer++) {
                awaited.put(buffer, awaitedBy(buffer));
            }
            int found = 0;
            for (int buffer = 0; buffer < last; buffer++) {
                if (comesBack(buffer)) {
                    found++;
                }
            }
            return found;
        }

        private int awaitedBy(int buffer) {
            int packet = buffers.first(buffer);
            if (packet == NONE) {
                return NONE;
            }
            int next = nextBuffer(traffic.places.at(packet), traffic.outputOf(packet), traffic.lanes.at(packet));
            return next != NONE && buffers.isFull(next) ? next : NONE;
        }

        /** A buffer waits for one other at the most, so it is on a circle if its own row leads back to it. */
        private boolean comesBack(int start) {
            int buffer = awaited.at(start);
            for (int step = 0; step < MOST_BUFFERS && buffer != NONE; step++) {
                if (buffer == start) {
                    return true;
                }
                buffer = awaited.at(buffer);
            }
            return false;
        }

        boolean hangsTogether() {
            hangings.fill(0);
            for (int packet = 0; packet < traffic.count; packet++) {
                if (traffic.places.at(packet) != NONE) {
                    hangAlong(packet);
                }
            }
            // Each round but the last cuts one buffer or more; what no round can cut leads round a circle.
            boolean hasCut = true;
            for (int round = 0; round < MOST_BUFFERS && hasCut; round++) {
                hasCut = cutEnds();
            }
            for (int buffer = 0; buffer < MOST_BUFFERS; buffer++) {
                if (hangings.at(buffer) != 0) {
                    return true;
                }
            }
            return false;
        }

        /** Notes in each buffer of a packet's way, as the bit of a direction, on which next one it hangs. */
        private void hangAlong(int packet) {
            int its = traffic.places.at(packet);
            int lane = traffic.lanes.at(packet);
            int buffer = bufferOf(its, traffic.inputs.at(packet), lane);
            for (int step = 0; step < MOST_SWITCHES; step++) {
                int output = grid.outputTowards(its, traffic.goals.at(packet), traffic.modes.at(packet));
                int next = nextBuffer(its, output, lane);
                if (next == NONE) {
                    return;
                }
                hangings.put(buffer, hangings.at(buffer) | 1 << output);
                its = grid.behind(its, output);
                buffer = next;
            }
        }

        /** Cuts off the buffers that hang only on such as hang on none; tells whether there were any. */
        private boolean cutEnds() {
            boolean hasCut = false;
            for (int its = 0; its < grid.size(); its++) {
                for (int place = 0; place < RING; place++) {
                    int buffer = its * RING + place;
                    if (hangings.at(buffer) != 0 && isEnd(its, place & 1, hangings.at(buffer))) {
                        hangings.put(buffer, 0);
                        hasCut = true;
                    }
                }
            }
            return hasCut;
        }

        private boolean isEnd(int its, int lane, int directions) {
            for (int direction = 0; direction < DIRECTIONS; direction++) {
                if ((directions >> direction & 1) != 0) {
                    int next = nextBuffer(its, direction, lane);
                    if (next != NONE && hangings.at(next) != 0) {
                        return false;
                    }
                }
            }
            return true;
        }

        private int nextBuffer(int its, int output, int lane) {
            int behind = grid.behind(its, output);
            return behind == NONE ? NONE : bufferOf(behind, output, lane);
        }
    }
}
