import java.util.ArrayList;
import java.util.HashMap;
import java.util.HashSet;
import java.util.List;
import java.util.Map;
import java.util.Set;

/**
 * The document told a second time, with lists and maps and without regard to speed, so that the class can be compared
 * with it call by call. It shares nothing with the class: a link bears the name of the switch ahead of it, a credit on
 * its way back is an entry with its tick, and circles are found by what reaches itself.
 */
final class Reference {
    private static final int[] RIGHT = {1, 0, -1, 0};
    private static final int[] DOWN = {0, 1, 0, -1};

    private static final class Packet {
        int number;
        int source;
        int goal;
        int lane;
        int mode;
        int hops;
        boolean isMarked;
        List<Packet> buffer;
        String bufferName;
        int its;
    }

    private record Return(int tick, String link) {
    }

    private int columns;
    private int rows;
    private int room;
    private int delay;
    private int tick;
    private int arrived;
    private List<Packet> packets;
    private Map<String, List<Packet>> buffers;
    private Map<String, Integer> credits;
    private List<Return> returns;
    private Map<Integer, Integer> gaps;
    private Map<Integer, Integer> lastTicks;
    private Set<Integer> paused;
    private Map<String, Integer> turns;

    Reference() {
        begin(2, 2, 1, 0);
    }

    int begin(int newColumns, int newRows, int newRoom, int newDelay) {
        if (newColumns < 2 || newColumns > 4 || newRows < 2 || newRows > 4 || newRoom < 1 || newRoom > 3
            || newDelay < 0 || newDelay > 3) {
            throw new IllegalArgumentException();
        }
        columns = newColumns;
        rows = newRows;
        room = newRoom;
        delay = newDelay;
        tick = 0;
        arrived = 0;
        packets = new ArrayList<>();
        buffers = new HashMap<>();
        credits = new HashMap<>();
        returns = new ArrayList<>();
        gaps = new HashMap<>();
        lastTicks = new HashMap<>();
        paused = new HashSet<>();
        turns = new HashMap<>();
        for (int its = 0; its < columns * rows; its++) {
            for (int lane = 0; lane < 2; lane++) {
                for (int input = 0; input < 5; input++) {
                    buffers.put(bufferName(its, input, lane), new ArrayList<>());
                }
                for (int direction = 0; direction < 4; direction++) {
                    if (neighbour(its, direction) != null) {
                        credits.put(linkName(its, direction, lane), room);
                    }
                }
            }
        }
        return columns * rows;
    }

    int send(int source, int goal, int lane, int mode) {
        needSwitch(source);
        needSwitch(goal);
        if (source == goal || lane < 0 || lane > 1 || mode < 0 || mode > 1) {
            throw new IllegalArgumentException();
        }
        List<Packet> own = buffers.get(bufferName(source, 4, lane));
        boolean isEarly = lastTicks.containsKey(source) && tick < lastTicks.get(source) + gap(source);
        if (own.size() == room || isEarly || packets.size() == 80) {
            throw new IllegalStateException();
        }
        Packet p = new Packet();
        p.number = packets.size();
        p.source = source;
        p.goal = goal;
        p.lane = lane;
        p.mode = mode;
        put(p, source, 4);
        packets.add(p);
        lastTicks.put(source, tick);
        return p.number;
    }

    int run(int ticks) {
        if (ticks < 1 || ticks > 50) {
            throw new IllegalArgumentException();
        }
        int before = arrived;
        for (int i = 0; i < ticks; i++) {
            runTick();
        }
        return arrived - before;
    }

    boolean pause(int its, boolean isPaused) {
        needSwitch(its);
        return isPaused ? !paused.add(its) : paused.remove(its);
    }

    int lose(int its, int direction, int lane) {
        int there = credits(its, direction, lane);
        if (there == 0) {
            throw new IllegalStateException();
        }
        credits.put(linkName(its, direction, lane), there - 1);
        return there - 1;
    }

    int recover() {
        int lost = 0;
        for (int its = 0; its < columns * rows; its++) {
            for (int direction = 0; direction < 4; direction++) {
                for (int lane = 0; lane < 2; lane++) {
                    Integer behind = neighbour(its, direction);
                    if (behind != null) {
                        String link = linkName(its, direction, lane);
                        int right = room - inBuffer(behind, direction, lane);
                        for (Return r : returns) {
                            if (r.link.equals(link)) {
                                right--;
                            }
                        }
                        lost += right - credits.get(link);
                        credits.put(link, right);
                    }
                }
            }
        }
        return lost;
    }

    int tick() {
        return tick;
    }

    int packets() {
        return packets.size();
    }

    int arrived() {
        return arrived;
    }

    int credits(int its, int direction, int lane) {
        needSwitch(its);
        if (direction < 0 || direction > 3 || neighbour(its, direction) == null) {
            throw new IndexOutOfBoundsException();
        }
        if (lane < 0 || lane > 1) {
            throw new IllegalArgumentException();
        }
        return credits.get(linkName(its, direction, lane));
    }

    int inBuffer(int its, int input, int lane) {
        needSwitch(its);
        if (input < 0 || input > 4 || lane < 0 || lane > 1) {
            throw new IllegalArgumentException();
        }
        return buffers.get(bufferName(its, input, lane)).size();
    }

    int gap(int its) {
        needSwitch(its);
        return gaps.getOrDefault(its, 1);
    }

    int placeOf(int packet) {
        Packet p = need(packet);
        return p.buffer == null ? -1 : p.its;
    }

    int hops(int packet) {
        return need(packet).hops;
    }

    boolean isMarked(int packet) {
        return need(packet).isMarked;
    }

    int wants(int packet) {
        Packet p = need(packet);
        return p.buffer == null ? -1 : output(p, p.its);
    }

    int circle() {
        Map<String, Set<String>> waits = new HashMap<>();
        for (Map.Entry<String, List<Packet>> entry : buffers.entrySet()) {
            if (!entry.getValue().isEmpty()) {
                Packet p = entry.getValue().get(0);
                int output = output(p, p.its);
                if (output != 4) {
                    String next = bufferName(neighbour(p.its, output), output, p.lane);
                    if (buffers.get(next).size() == room) {
                        waits.computeIfAbsent(entry.getKey(), k -> new HashSet<>()).add(next);
                    }
                }
            }
        }
        return onCircles(waits);
    }

    boolean mayCircle() {
        Map<String, Set<String>> hangs = new HashMap<>();
        for (Packet p : packets) {
            if (p.buffer != null) {
                String name = p.bufferName;
                int its = p.its;
                for (int output = output(p, its); output != 4; output = output(p, its)) {
                    its = neighbour(its, output);
                    String next = bufferName(its, output, p.lane);
                    hangs.computeIfAbsent(name, k -> new HashSet<>()).add(next);
                    name = next;
                }
            }
        }
        return onCircles(hangs) > 0;
    }

    private static int onCircles(Map<String, Set<String>> graph) {
        int found = 0;
        for (String start : graph.keySet()) {
            Set<String> reached = new HashSet<>();
            List<String> open = new ArrayList<>(graph.get(start));
            while (!open.isEmpty()) {
                String name = open.remove(open.size() - 1);
                if (reached.add(name)) {
                    open.addAll(graph.getOrDefault(name, Set.of()));
                }
            }
            if (reached.contains(start)) {
                found++;
            }
        }
        return found;
    }

    private void runTick() {
        List<Return> later = new ArrayList<>();
        for (Return r : returns) {
            if (r.tick == tick) {
                credits.merge(r.link, 1, Integer::sum);
            } else {
                later.add(r);
            }
        }
        returns = later;
        Map<Packet, Integer> going = new HashMap<>();
        List<Packet> order = new ArrayList<>();
        for (int its = 0; its < columns * rows; its++) {
            for (int output = 0; output < 5; output++) {
                Packet p = choice(its, output);
                if (p != null) {
                    going.put(p, output);
                    order.add(p);
                }
            }
        }
        List<Packet> came = new ArrayList<>();
        for (Packet p : order) {
            leave(p);
        }
        for (Packet p : order) {
            if (going.get(p) == 4) {
                out(p);
            } else {
                int output = going.get(p);
                credits.merge(linkName(p.its, output, p.lane), -1, Integer::sum);
                put(p, neighbour(p.its, output), output);
                p.hops++;
                came.add(p);
            }
        }
        for (Packet p : came) {
            int crowd = 0;
            for (Packet other : packets) {
                if (other.buffer != null && other.its == p.its) {
                    crowd++;
                }
            }
            if (crowd >= 4) {
                p.isMarked = true;
            }
        }
        tick++;
    }

    private Packet choice(int its, int output) {
        String turn = its + ">" + output;
        int from = turns.getOrDefault(turn, 0);
        for (int i = from; i < from + 10; i++) {
            int ring = i % 10;
            int lane = ring % 2;
            List<Packet> buffer = buffers.get(bufferName(its, ring / 2, lane));
            if (!buffer.isEmpty() && output(buffer.get(0), its) == output) {
                boolean canGo = output == 4
                    || credits.get(linkName(its, output, lane)) > 0 && !paused.contains(neighbour(its, output));
                if (canGo) {
                    turns.put(turn, (ring + 1) % 10);
                    return buffer.get(0);
                }
            }
        }
        return null;
    }

    private void leave(Packet p) {
        p.buffer.remove(0);
        p.buffer = null;
        int input = Integer.parseInt(p.bufferName.split("/")[1]);
        if (input < 4) {
            int ahead = neighbour(p.its, (input + 2) % 4);
            returns.add(new Return(tick + 1 + delay, linkName(ahead, input, p.lane)));
        }
    }

    private void out(Packet p) {
        arrived++;
        int old = gap(p.source);
        int next = p.isMarked ? old * 2 : old - 1;
        gaps.put(p.source, next > 16 ? 16 : next < 1 ? 1 : next);
    }

    private void put(Packet p, int its, int input) {
        p.its = its;
        p.bufferName = bufferName(its, input, p.lane);
        p.buffer = buffers.get(p.bufferName);
        p.buffer.add(p);
        if (p.buffer.size() > room) {
            throw new AssertionError("a buffer has more packets than room");
        }
    }

    private int output(Packet p, int its) {
        int right = p.goal % columns - its % columns;
        int down = p.goal / columns - its / columns;
        if (right == 0 && down == 0) {
            return 4;
        }
        boolean alongRow = down == 0 || right != 0 && p.mode == 0;
        return alongRow ? (right > 0 ? 0 : 2) : (down > 0 ? 1 : 3);
    }

    private Integer neighbour(int its, int direction) {
        int column = its % columns + RIGHT[direction];
        int row = its / columns + DOWN[direction];
        return column < 0 || column >= columns || row < 0 || row >= rows ? null : row * columns + column;
    }

    private void needSwitch(int its) {
        if (its < 0 || its >= columns * rows) {
            throw new IndexOutOfBoundsException();
        }
    }

    private Packet need(int packet) {
        if (packet < 0 || packet >= packets.size()) {
            throw new IndexOutOfBoundsException();
        }
        return packets.get(packet);
    }

    private static String bufferName(int its, int input, int lane) {
        return its + "/" + input + "/" + lane;
    }

    private static String linkName(int its, int direction, int lane) {
        return its + "-" + direction + "-" + lane;
    }
}
