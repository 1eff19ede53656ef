import java.util.ArrayDeque;
import java.util.ArrayList;
import java.util.HashMap;
import java.util.List;
import java.util.Map;
import java.util.TreeMap;

/**
 * Long runs of calls, each answer compared with that of a second, slow writing of the document: it knows
 * the ends of pieces as points on the map, and looks at all pairs of pieces or runs.
 */
public final class ModelTests {
    private static final int NONE = -1;
    /** The document promises nothing after an object's 512th call. */
    private static final int MOST_CALLS = 512;
    private static final int OBJECTS = 400;
    private static final int SHOWN = 20;

    private static int wrong = 0;
    private static long state = 20261115L;

    public static void main(String[] args) {
        int answered = 0;
        for (int i = 0; i < OBJECTS; i++) {
            answered += new Walk(i).go();
        }
        if (answered < 20000) {
            wrong++;
            System.out.println("only " + answered + " answers were other than NONE: the runs test too little");
        }
        fullMap();
        System.out.println(wrong == 0 ? "all answers are as due" : wrong + " answers are not as due");
        if (wrong != 0) {
            System.exit(1);
        }
    }

    /** The same numbers at each run: the upper bits of a linear congruence. */
    private static int below(int bound) {
        state = state * 6364136223846793005L + 1442695040888963407L;
        return (int) ((state >>> 33) % bound);
    }

    private static void due(String call, String got, String want) {
        if (!got.equals(want)) {
            wrong++;
            if (wrong <= SHOWN) {
                System.out.println(call + " answered " + got + ", due is " + want);
            }
        }
    }

    private interface Call {
        int make();
    }

    private static String answer(Call call) {
        try {
            return "" + call.make();
        } catch (RuntimeException e) {
            return e.getClass().getSimpleName();
        }
    }

    /** One object's run of calls. */
    private static final class Walk {
        private final int number;
        private final RouteTracks real;
        private final Plain plain;
        /** Calls are made on some of the tiles alone, so that there they make a dense net. */
        private final int spread;
        private final int stations;
        private int calls = 0;
        private int answered = 0;

        Walk(int number) {
            this.number = number;
            int width = number % 7 == 0 ? below(30) - 4 : 4 + below(4);
            int height = number % 5 == 0 ? below(30) - 4 : 4 + below(4);
            real = new RouteTracks(width, height);
            plain = new Plain(width, height);
            spread = Math.min(plain.tiles(), 8 + below(number % 4 == 0 ? 60 : 16));
            stations = number % 3 == 0 ? 8 : 1 + below(2);
        }

        int go() {
            int first = 40 + below(200);
            int layWeight = 4 + below(6);
            while (calls < first) {
                change(layWeight);
            }
            while (calls < MOST_CALLS) {
                if (below(6) == 0) {
                    change(3);
                } else {
                    ask();
                }
            }
            return answered;
        }

        private int tile() {
            return below(20) == 0 ? below(plain.tiles() + 8) - 4 : below(spread);
        }

        private int kind() {
            return below(20) == 0 ? below(10) - 2 : below(6);
        }

        private int station() {
            return below(40) == 0 ? below(12) - 2 : below(stations);
        }

        private int run() {
            int run = below(40) == 0 ? below(12 * plain.tiles() + 10) - 5 : 2 * somePiece() + below(2);
            return plain.open(run) || below(4) == 0 ? run : 2 * somePiece() + below(2);
        }

        /** Mostly one that is there. */
        private int somePiece() {
            if (below(10) == 0 || plain.pieces.isEmpty()) {
                return 6 * below(spread) + below(6);
            }
            List<Integer> there = new ArrayList<>(plain.pieces.keySet());
            return there.get(below(there.size()));
        }

        private void change(int layWeight) {
            calls++;
            boolean laid = below(layWeight + 3) < layWeight;
            int some = somePiece();
            boolean free = laid || below(8) == 0;
            int tile = free ? tile() : some / 6;
            int kind = free ? kind() : some % 6;
            if (laid) {
                compare("lay(" + tile + ", " + kind + ")",
                    () -> { real.lay(tile, kind); return 0; }, () -> { plain.lay(tile, kind); return 0; });
                return;
            }
            switch (below(5)) {
                case 0:
                    compare("lift(" + tile + ", " + kind + ")",
                        () -> { real.lift(tile, kind); return 0; }, () -> { plain.lift(tile, kind); return 0; });
                    break;
                case 1: {
                    int way = below(20) == 0 ? below(6) - 2 : below(3) == 0 ? NONE : below(2);
                    int sort = below(20) == 0 ? below(4) - 1 : below(2);
                    compare("signal(" + tile + ", " + kind + ", " + way + ", " + sort + ")",
                        () -> { real.signal(tile, kind, way, sort); return 0; },
                        () -> { plain.signal(tile, kind, way, sort); return 0; });
                    break;
                }
                default: {
                    int straight = below(4) == 0 ? kind : kind % 2;
                    int station = below(8) == 0 ? NONE : station();
                    compare("platform(" + tile + ", " + straight + ", " + station + ")",
                        () -> { real.platform(tile, straight, station); return 0; },
                        () -> { plain.platform(tile, straight, station); return 0; });
                }
            }
        }

        private void ask() {
            calls++;
            int tile = tile();
            int run = run();
            int station = station();
            switch (below(10)) {
                case 0: {
                    int what = below(9) - 1;
                    compare("at(" + tile + ", " + what + ")", () -> real.at(tile, what), () -> plain.at(tile, what));
                    break;
                }
                case 1: {
                    int k = below(3) == 0 ? below(5) - 1 : below(2);
                    compare("next(" + run + ", " + k + ")", () -> real.next(run, k), () -> plain.next(run, k));
                    break;
                }
                case 2:
                    compare("before(" + run + ")", () -> real.before(run), () -> plain.before(run));
                    break;
                case 3: {
                    boolean free = below(5) == 0;
                    int some = somePiece();
                    int its = free ? tile : some / 6;
                    int kind = free ? kind() : some % 6;
                    compare("block(" + its + ", " + kind + ")", () -> real.block(its, kind), () -> plain.block(its, kind));
                    break;
                }
                case 4:
                    compare("sign(" + station + ")", () -> real.sign(station), () -> plain.sign(station));
                    break;
                case 5:
                    compare("isTarget(" + run + ", " + station + ")",
                        () -> real.isTarget(run, station) ? 1 : 0, () -> plain.isTarget(run, station) ? 1 : 0);
                    break;
                case 6:
                    compare("cost(" + run + ", " + station + ")", () -> real.cost(run, station), () -> plain.cost(run, station));
                    break;
                case 7:
                case 8: {
                    int k = below(3) == 0 ? below(12) - 1 : below(4);
                    compare("route(" + run + ", " + station + ", " + k + ")",
                        () -> real.route(run, station, k), () -> plain.route(run, station, k));
                    break;
                }
                default: {
                    int what = below(6) - 1;
                    compare("count(" + what + ")", () -> real.count(what), () -> plain.count(what));
                }
            }
        }

        private void compare(String call, Call asked, Call wanted) {
            String want = answer(wanted);
            due("object " + number + ", call " + calls + ": " + call, answer(asked), want);
            answered += want.equals("-1") ? 0 : 1;
        }
    }

    /** As many pieces as an object's calls can lay, in one long line to and fro over the largest map. */
    private static void fullMap() {
        RouteTracks x = new RouteTracks(20, 20);
        Plain plain = new Plain(20, 20);
        for (int tile = 0; tile < 400; tile++) {
            int row = tile / 20;
            int column = tile % 20;
            int turn = column == 19 ? (row % 2 == 0 ? 4 : 5) : column == 0 ? (row % 2 == 0 ? 2 : 3) : 0;
            x.lay(tile, turn);
            plain.lay(tile, turn);
        }
        x.platform(381, 0, 7);
        plain.platform(381, 0, 7);
        int[] runs = {12 + 0, 12 + 1, 12 * 21, 12 * 21 + 1, 12 * 398, 12 * 200 + 6};
        for (int run : runs) {
            due("cost(" + run + ", 7) on the full map", "" + x.cost(run, 7), "" + plain.cost(run, 7));
            for (int k : new int[] {0, 1, 100, 370, 378, 379, 380, 398}) {
                due("route(" + run + ", 7, " + k + ") on the full map", "" + x.route(run, 7, k), "" + plain.route(run, 7, k));
            }
        }
        due("block(399, 5) on the full map", "" + x.block(399, 5), "" + plain.block(399, 5));
        due("count(3) on the full map", "" + x.count(3), "" + plain.count(3));
        due("count(0) on the full map", "" + x.count(0), "400");
    }

    /** A piece's signal (as at tells it) and station. */
    private static final class Piece {
        int signal = 0;
        int station = NONE;
    }

    /** The document once more, without regard to speed. */
    private static final class Plain {
        private static final String[] ENDS = {"WE", "NS", "NE", "SE", "SW", "NW"};

        private final int width;
        private final int height;
        final TreeMap<Integer, Piece> pieces = new TreeMap<>();
        private final Map<Integer, Map<Integer, Integer>> costs = new HashMap<>();
        private Map<Integer, Integer> blocks = null;

        Plain(int width, int height) {
            this.width = width < 4 ? 4 : width > 20 ? 20 : width;
            this.height = height < 4 ? 4 : height > 20 ? 20 : height;
        }

        int tiles() {
            return width * height;
        }

        private void place(int tile, int kind) {
            if (tile < 0 || tile >= tiles() || kind < 0 || kind > 5) {
                throw new IndexOutOfBoundsException();
            }
        }

        private Piece there(int tile, int kind) {
            Piece piece = pieces.get(6 * tile + kind);
            if (piece == null) {
                throw new IllegalArgumentException();
            }
            return piece;
        }

        private void changed() {
            costs.clear();
            blocks = null;
        }

        void lay(int tile, int kind) {
            place(tile, kind);
            if (pieces.containsKey(6 * tile + kind)) {
                throw new IllegalArgumentException();
            }
            pieces.put(6 * tile + kind, new Piece());
            changed();
        }

        void lift(int tile, int kind) {
            place(tile, kind);
            there(tile, kind);
            pieces.remove(6 * tile + kind);
            changed();
        }

        void signal(int tile, int kind, int way, int sort) {
            place(tile, kind);
            Piece piece = there(tile, kind);
            if (way != NONE && way != 0 && way != 1 || sort != 0 && sort != 1) {
                throw new IllegalArgumentException();
            }
            piece.signal = way == NONE ? 0 : sort == 0 ? way + 1 : way + 3;
            changed();
        }

        void platform(int tile, int kind, int station) {
            place(tile, kind);
            if (station < NONE || station > 7) {
                throw new IndexOutOfBoundsException();
            }
            Piece piece = there(tile, kind);
            if (kind > 1) {
                throw new IllegalArgumentException();
            }
            piece.station = station;
            changed();
        }

        int at(int tile, int what) {
            if (tile < 0 || tile >= tiles() || what < 0 || what > 6) {
                return NONE;
            }
            if (what > 0) {
                Piece piece = pieces.get(6 * tile + what - 1);
                return piece == null ? 0 : 1 + 4 * piece.signal + 32 * (piece.station + 1);
            }
            int bits = 0;
            for (int kind = 0; kind < 6; kind++) {
                bits += pieces.containsKey(6 * tile + kind) ? 1 << kind : 0;
            }
            return bits;
        }

        /** The middle of the line where a run ends, on a map of half tiles. */
        private String end(int run) {
            int tile = run / 12;
            int x = 2 * (tile % width) + 1;
            int y = 2 * (tile / width) + 1;
            switch (ENDS[run / 2 % 6].charAt(1 - run % 2)) {
                case 'W': return (x - 1) + "," + y;
                case 'E': return (x + 1) + "," + y;
                case 'N': return x + "," + (y - 1);
                default: return x + "," + (y + 1);
            }
        }

        private String begin(int run) {
            return end(run % 2 == 0 ? run + 1 : run - 1);
        }

        private boolean signalled(int run) {
            int signal = pieces.get(run / 2).signal;
            return run % 2 == 0 ? signal == 1 || signal == 3 : signal == 2 || signal == 4;
        }

        private boolean open(int run) {
            return run >= 0 && pieces.containsKey(run / 2) && !signalled(run % 2 == 0 ? run + 1 : run - 1);
        }

        private static int length(int run) {
            return run / 2 % 6 < 2 ? 16 : 12;
        }

        private List<Integer> openRuns() {
            List<Integer> runs = new ArrayList<>();
            for (int piece : pieces.keySet()) {
                if (open(2 * piece)) {
                    runs.add(2 * piece);
                }
                if (open(2 * piece + 1)) {
                    runs.add(2 * piece + 1);
                }
            }
            return runs;
        }

        /** Only the tiles round a run's own one can have such runs: all others are left out early. */
        private boolean near(int one, int other) {
            int apart = Math.abs(one / 12 - other / 12);
            return apart == 1 || apart == width;
        }

        private List<Integer> nexts(int run) {
            List<Integer> runs = new ArrayList<>();
            for (int other : openRuns()) {
                if (near(run, other) && begin(other).equals(end(run))) {
                    runs.add(other);
                }
            }
            return runs;
        }

        int next(int run, int k) {
            if (!open(run)) {
                return NONE;
            }
            List<Integer> runs = nexts(run);
            return k >= 0 && k < runs.size() ? runs.get(k) : NONE;
        }

        int before(int run) {
            if (!open(run)) {
                return NONE;
            }
            for (int other : openRuns()) {
                if (near(run, other) && end(other).equals(begin(run))) {
                    return other;
                }
            }
            return NONE;
        }

        private boolean touching(int one, int other) {
            if (one / 6 == other / 6) {
                int low = Math.min(one % 6, other % 6);
                int high = Math.max(one % 6, other % 6);
                return !(low == 2 && high == 4 || low == 3 && high == 5);
            }
            for (int mine = 2 * one; mine < 2 * one + 2; mine++) {
                for (int its = 2 * other; its < 2 * other + 2; its++) {
                    if (near(mine, its) && end(mine).equals(end(its)) && !signalled(mine) && !signalled(its)) {
                        return true;
                    }
                }
            }
            return false;
        }

        private Map<Integer, Integer> blocks() {
            if (blocks != null) {
                return blocks;
            }
            blocks = new HashMap<>();
            for (int lowest : pieces.keySet()) {
                if (blocks.containsKey(lowest)) {
                    continue;
                }
                ArrayDeque<Integer> open = new ArrayDeque<>();
                blocks.put(lowest, lowest);
                open.push(lowest);
                while (!open.isEmpty()) {
                    int one = open.pop();
                    for (int other : pieces.keySet()) {
                        if (!blocks.containsKey(other) && touching(one, other)) {
                            blocks.put(other, lowest);
                            open.push(other);
                        }
                    }
                }
            }
            return blocks;
        }

        int block(int tile, int kind) {
            if (tile < 0 || tile >= tiles() || kind < 0 || kind > 5) {
                return NONE;
            }
            return blocks().getOrDefault(6 * tile + kind, NONE);
        }

        private boolean belongs(int run, int station) {
            return pieces.get(run / 2).station == station;
        }

        int sign(int station) {
            int lowest = NONE;
            for (int piece : pieces.descendingKeySet()) {
                if (station != NONE && belongs(2 * piece, station)) {
                    lowest = piece / 6;
                }
            }
            return lowest;
        }

        boolean isTarget(int run, int station) {
            if (station < 0 || station > 7 || !open(run) || !belongs(run, station)) {
                return false;
            }
            for (int other : nexts(run)) {
                if (belongs(other, station)) {
                    return false;
                }
            }
            return true;
        }

        /** The costs that are not endless: lowered until no run's cost can be lowered any more. */
        private Map<Integer, Integer> costs(int station) {
            Map<Integer, Integer> cost = costs.get(station);
            if (cost != null) {
                return cost;
            }
            cost = new HashMap<>();
            Map<Integer, List<Integer>> after = new HashMap<>();
            for (int run : openRuns()) {
                after.put(run, nexts(run));
                if (isTarget(run, station)) {
                    cost.put(run, 0);
                }
            }
            boolean lowered = true;
            while (lowered) {
                lowered = false;
                for (int run : openRuns()) {
                    for (int other : after.get(run)) {
                        if (cost.containsKey(other)) {
                            int sum = length(other) + cost.get(other);
                            if (!cost.containsKey(run) || cost.get(run) > sum) {
                                cost.put(run, sum);
                                lowered = true;
                            }
                        }
                    }
                }
            }
            costs.put(station, cost);
            return cost;
        }

        int cost(int run, int station) {
            return open(run) ? costs(station).getOrDefault(run, NONE) : NONE;
        }

        int route(int run, int station, int k) {
            List<Integer> route = new ArrayList<>();
            if (cost(run, station) > 0) {
                int from = run;
                do {
                    int best = NONE;
                    for (int other : nexts(from)) {
                        int cost = cost(other, station);
                        if (cost != NONE && (best == NONE || length(other) + cost < length(best) + cost(best, station))) {
                            best = other;
                        }
                    }
                    route.add(best);
                    from = best;
                } while (!signalled(from) && !isTarget(from, station));
            }
            return k >= 0 && k < route.size() ? route.get(k) : NONE;
        }

        int count(int what) {
            int signals = 0;
            int ofStations = 0;
            for (Piece piece : pieces.values()) {
                signals += piece.signal != 0 ? 1 : 0;
                ofStations += piece.station != NONE ? 1 : 0;
            }
            switch (what) {
                case 0: return pieces.size();
                case 1: return signals;
                case 2: return ofStations;
                case 3: {
                    int lowest = 0;
                    for (Map.Entry<Integer, Integer> entry : blocks().entrySet()) {
                        lowest += entry.getKey().equals(entry.getValue()) ? 1 : 0;
                    }
                    return lowest;
                }
                default: return NONE;
            }
        }
    }
}
