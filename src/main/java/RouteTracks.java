import java.util.Arrays;

/**
 * Tracks on a map, with signals of two sorts and stations: which blocks they make, what each run
 * costs to a station, and which route it takes, while they are changed.
 */
public final class RouteTracks {
    public static final int NONE = -1;

    private static final int LEAST_SIDE = 4;
    private static final int MOST_SIDE = 20;
    private static final int KINDS = 6;
    private static final int STRAIGHT_KINDS = 2;
    private static final int STATIONS = 8;
    private static final int SORTS = 2;

    private final Rails rails;
    private final Search search;

    public RouteTracks(int width, int height) {
        int columns = sideWithin(width);
        int rows = sideWithin(height);
        rails = new Rails(columns, rows);
        search = new Search(columns * rows);
    }

    public void lay(int tile, int kind) throws IndexOutOfBoundsException, IllegalArgumentException {
        requirePlace(tile, kind);
        int piece = KINDS * tile + kind;
        if (rails.isThere(piece)) {
            throw new IllegalArgumentException("the piece is there");
        }
        rails.put(piece, Rails.NO_SIGNAL, NONE);
        search.forget();
    }

    public void lift(int tile, int kind) throws IndexOutOfBoundsException, IllegalArgumentException {
        requirePlace(tile, kind);
        int piece = KINDS * tile + kind;
        requireThere(piece);
        rails.takeAway(piece);
        search.forget();
    }

    public void signal(int tile, int kind, int way, int sort)
            throws IndexOutOfBoundsException, IllegalArgumentException {
        requirePlace(tile, kind);
        int piece = KINDS * tile + kind;
        requireThere(piece);
        if (way < NONE || way > 1) {
            throw new IllegalArgumentException("no such way");
        }
        if (sort < 0 || sort >= SORTS) {
            throw new IllegalArgumentException("no such sort");
        }
        int mark = way == NONE ? Rails.NO_SIGNAL : 1 + way + 2 * sort;
        rails.put(piece, mark, rails.stationOf(piece));
        search.forget();
    }

    public void platform(int tile, int kind, int station)
            throws IndexOutOfBoundsException, IllegalArgumentException {
        requirePlace(tile, kind);
        if (station != NONE && !isStation(station)) {
            throw new IndexOutOfBoundsException("no such station");
        }
        int piece = KINDS * tile + kind;
        requireThere(piece);
        if (kind >= STRAIGHT_KINDS) {
            throw new IllegalArgumentException("a curve has no station");
        }
        rails.put(piece, rails.signalOf(piece), station);
        search.forget();
    }

    public int at(int tile, int what) {
        if (!rails.hasTile(tile) || what < 0 || what > KINDS) {
            return NONE;
        }
        return what == 0 ? rails.kindsIn(tile) : rails.pieces[KINDS * tile + what - 1];
    }

    public int next(int run, int k) {
        if (!rails.isOpen(run)) {
            return NONE;
        }
        int seen = 0;
        for (int i = 0; i < Rails.BRANCHES; i++) {
            int ahead = rails.ahead(run, i);
            if (rails.isOpen(ahead)) {
                if (seen == k) {
                    return ahead;
                }
                seen++;
            }
        }
        return NONE;
    }

    public int before(int run) {
        if (!rails.isOpen(run)) {
            return NONE;
        }
        // Those behind a run are all in one tile and come by rising kinds, so the first is the lowest.
        for (int i = 0; i < Rails.BRANCHES; i++) {
            int behind = rails.behind(run, i);
            if (rails.isOpen(behind)) {
                return behind;
            }
        }
        return NONE;
    }

    public int block(int tile, int kind) {
        if (!rails.hasTile(tile) || !isKind(kind)) {
            return NONE;
        }
        search.findBlocks(rails);
        return search.found[KINDS * tile + kind];
    }

    public int sign(int station) {
        if (!isStation(station)) {
            return NONE;
        }
        for (int piece = 0; piece < rails.pieces.length; piece++) {
            if (rails.stationOf(piece) == station) {
                return piece / KINDS;
            }
        }
        return NONE;
    }

    public boolean isTarget(int run, int station) {
        return isStation(station) && rails.isOpen(run) && rails.isLastOf(run, station);
    }

    public int cost(int run, int station) {
        if (!isStation(station) || !rails.isOpen(run)) {
            return NONE;
        }
        search.findCosts(rails, station);
        return search.found[run];
    }

    public int route(int run, int station, int k) {
        if (!isStation(station) || !rails.isOpen(run)) {
            return NONE;
        }
        search.findCosts(rails, station);
        if (search.found[run] <= 0) {
            return NONE;
        }
        int reached = run;
        // The cost falls with every step, so that no route is longer than there are runs.
        for (int step = 0; step < search.found.length; step++) {
            reached = search.cheapestAhead(rails, reached);
            if (reached == NONE || step == k) {
                return reached;
            }
            if (rails.hasSignal(reached) || search.found[reached] == 0) {
                return NONE;
            }
        }
        return NONE;
    }

    public int count(int what) {
        switch (what) {
            case 0:
                return rails.piecesWith(Rails.THERE_BITS);
            case 1:
                return rails.piecesWith(Rails.SIGNAL_BITS);
            case 2:
                return rails.piecesWith(Rails.STATION_BITS);
            case 3:
                search.findBlocks(rails);
                return search.blocks;
            default:
                return NONE;
        }
    }

    private static int sideWithin(int side) {
        return Math.max(LEAST_SIDE, Math.min(MOST_SIDE, side));
    }

    private static boolean isKind(int kind) {
        return kind >= 0 && kind < KINDS;
    }

    private static boolean isStation(int station) {
        return station >= 0 && station < STATIONS;
    }

    private void requirePlace(int tile, int kind) {
        if (!rails.hasTile(tile)) {
            throw new IndexOutOfBoundsException("no such tile");
        }
        if (!isKind(kind)) {
            throw new IndexOutOfBoundsException("no such kind");
        }
    }

    private void requireThere(int piece) {
        if (!rails.isThere(piece)) {
            throw new IllegalArgumentException("the piece is not there");
        }
    }

    /** The pieces with their signals and stations, and how runs join at the lines between tiles. */
    private static final class Rails {
        static final int NO_SIGNAL = 0;
        /** How many kinds of pieces end at one edge of a tile. */
        static final int BRANCHES = 3;

        // A piece's number, as at(..) tells it, has these parts; station 7 is 8 in the last one.
        static final int THERE_BITS = 1;
        static final int SIGNAL_BITS = 7 << 2;
        static final int STATION_BITS = 15 << 5;

        private static final int EDGES = 4;
        private static final int WEST = 0;
        private static final int NORTH = 1;
        private static final int EAST = 2;
        private static final int SOUTH = 3;
        private static final int RUNS_IN_TILE = 12;
        private static final int STRAIGHT_LENGTH = 16;
        private static final int CURVE_LENGTH = 12;

        /** The edge to which each of a tile's runs goes. */
        private static final int[] GOES_TO = {
            EAST, WEST, SOUTH, NORTH, EAST, NORTH, EAST, SOUTH, WEST, SOUTH, WEST, NORTH
        };
        /** For each edge by which a tile is left: the next tile's runs that begin there, by kinds. */
        private static final int[] BEGIN_BEYOND = {
            1, 5, 7,
            3, 6, 8,
            0, 9, 11,
            2, 4, 10
        };

        /** For 4 * tile + edge the tile beyond that edge, or NONE. */
        private final int[] beyond;
        /** Each piece as at(..) tells it: one row for all of it, since a caller may make many objects. */
        final int[] pieces;

        Rails(int columns, int rows) {
            beyond = new int[EDGES * columns * rows];
            pieces = new int[KINDS * columns * rows];
            for (int y = 0; y < rows; y++) {
                for (int x = 0; x < columns; x++) {
                    int tile = columns * y + x;
                    beyond[EDGES * tile + WEST] = x > 0 ? tile - 1 : NONE;
                    beyond[EDGES * tile + NORTH] = y > 0 ? tile - columns : NONE;
                    beyond[EDGES * tile + EAST] = x < columns - 1 ? tile + 1 : NONE;
                    beyond[EDGES * tile + SOUTH] = y < rows - 1 ? tile + columns : NONE;
                }
            }
        }

        boolean hasTile(int tile) {
            return tile >= 0 && tile < pieces.length / KINDS;
        }

        void put(int piece, int mark, int station) {
            pieces[piece] = THERE_BITS + (mark << 2) + ((station + 1) << 5);
        }

        void takeAway(int piece) {
            pieces[piece] = 0;
        }

        boolean isThere(int piece) {
            return pieces[piece] != 0;
        }

        /** 0 for none, 1 and 2 PATH for the even and the odd run, 3 and 4 BLOCK likewise. */
        int signalOf(int piece) {
            return (pieces[piece] & SIGNAL_BITS) >> 2;
        }

        int stationOf(int piece) {
            return ((pieces[piece] & STATION_BITS) >> 5) - 1;
        }

        int kindsIn(int tile) {
            int bits = 0;
            for (int kind = 0; kind < KINDS; kind++) {
                if (isThere(KINDS * tile + kind)) {
                    bits |= 1 << kind;
                }
            }
            return bits;
        }

        int piecesWith(int bits) {
            int sum = 0;
            for (int piece = 0; piece < pieces.length; piece++) {
                if ((pieces[piece] & bits) != 0) {
                    sum++;
                }
            }
            return sum;
        }

        /** Whether the piece's signal is for this very run. */
        boolean hasSignal(int run) {
            int mark = signalOf(run / 2);
            return mark != NO_SIGNAL && ((mark - 1) & 1) == (run & 1);
        }

        boolean isOpen(int run) {
            return run >= 0 && run < 2 * pieces.length && isThere(run / 2) && !hasSignal(run ^ 1);
        }

        boolean isStraight(int run) {
            return run / 2 % KINDS < STRAIGHT_KINDS;
        }

        int lengthOf(int run) {
            return isStraight(run) ? STRAIGHT_LENGTH : CURVE_LENGTH;
        }

        /** Of the three runs that could begin where a run ends, the i-th; NONE at the border. */
        int ahead(int run, int i) {
            int edge = GOES_TO[run % RUNS_IN_TILE];
            int tile = beyond[EDGES * (run / RUNS_IN_TILE) + edge];
            return tile == NONE ? NONE : RUNS_IN_TILE * tile + BEGIN_BEYOND[BRANCHES * edge + i];
        }

        /** Of the three runs that could end where a run begins, the i-th; NONE at the border. */
        int behind(int run, int i) {
            int reversed = ahead(run ^ 1, i);
            return reversed == NONE ? NONE : reversed ^ 1;
        }

        /** Whether an open run is of a station and goes on to no other run of it. */
        boolean isLastOf(int run, int station) {
            if (stationOf(run / 2) != station) {
                return false;
            }
            for (int i = 0; i < BRANCHES; i++) {
                int ahead = ahead(run, i);
                if (isOpen(ahead) && stationOf(ahead / 2) == station) {
                    return false;
                }
            }
            return true;
        }
    }

    /** The blocks, or the costs to one station, of the rails as they are now. */
    private static final class Search {
        private static final int NOTHING = -1;
        /** Beside the stations' numbers, which stand for the costs to them. */
        private static final int BLOCKS = STATIONS;

        /** For kinds 2 .. 5 the one kind of the same tile that a piece does not meet. */
        private static final int[] APART = {NONE, NONE, 4, 5, 2, 3};

        /**
         * Each piece's block (its lowest piece), or each run's cost; NONE where there is none. One row
         * for both, as the queues are, since a caller may make many objects.
         */
        final int[] found;
        private final Queue straights;
        private final Queue curves;
        /** What the row holds: NOTHING that is still true, BLOCKS, or the costs to a station. */
        private int held;
        /** How many blocks there are, while the row holds them. */
        int blocks;

        Search(int tiles) {
            found = new int[Rails.RUNS_IN_TILE * tiles];
            straights = new Queue(2 * STRAIGHT_KINDS * tiles);
            curves = new Queue(2 * (KINDS - STRAIGHT_KINDS) * tiles);
            held = NOTHING;
        }

        /** To be called at each change of the rails. */
        void forget() {
            held = NOTHING;
        }

        void findBlocks(Rails rails) {
            if (held == BLOCKS) {
                return;
            }
            held = BLOCKS;
            blocks = 0;
            Arrays.fill(found, NONE);
            for (int piece = 0; piece < rails.pieces.length; piece++) {
                if (rails.isThere(piece) && found[piece] == NONE) {
                    blocks++;
                    floodBlock(rails, piece);
                }
            }
        }

        private void floodBlock(Rails rails, int lowest) {
            // The curves' queue alone has room for all pieces, and each comes into it once.
            curves.clear();
            join(lowest, lowest);
            for (int i = 0; i < found.length && !curves.isEmpty(); i++) {
                int piece = curves.take();
                joinMeeting(rails, piece, lowest);
                joinAcross(rails, 2 * piece, lowest);
                joinAcross(rails, 2 * piece + 1, lowest);
            }
        }

        private void joinMeeting(Rails rails, int piece, int lowest) {
            int kind = piece % KINDS;
            int first = piece - kind;
            for (int other = 0; other < KINDS; other++) {
                if (APART[kind] != other && rails.isThere(first + other)) {
                    join(first + other, lowest);
                }
            }
        }

        /** Joins what a run's piece touches over the line to which the run goes. */
        private void joinAcross(Rails rails, int run, int lowest) {
            if (rails.hasSignal(run)) {
                return;
            }
            for (int i = 0; i < Rails.BRANCHES; i++) {
                int ahead = rails.ahead(run, i);
                // The other piece's run to that line is the reverse of the one that begins there.
                if (ahead != NONE && rails.isThere(ahead / 2) && !rails.hasSignal(ahead ^ 1)) {
                    join(ahead / 2, lowest);
                }
            }
        }

        private void join(int piece, int lowest) {
            if (found[piece] == NONE) {
                found[piece] = lowest;
                curves.add(piece);
            }
        }

        void findCosts(Rails rails, int station) {
            if (held == station) {
                return;
            }
            held = station;
            Arrays.fill(found, NONE);
            straights.clear();
            curves.clear();
            settleTargets(rails, station);
            for (int i = 0; i < found.length; i++) {
                int run = takeNearest();
                if (run == NONE) {
                    return;
                }
                settleBehind(rails, run);
            }
        }

        private void settleTargets(Rails rails, int station) {
            for (int piece = 0; piece < rails.pieces.length; piece++) {
                if (rails.stationOf(piece) != station) {
                    continue;
                }
                for (int run = 2 * piece; run <= 2 * piece + 1; run++) {
                    if (rails.isOpen(run) && rails.isLastOf(run, station)) {
                        settle(rails, run, 0);
                    }
                }
            }
        }

        private void settleBehind(Rails rails, int run) {
            int cost = found[run] + rails.lengthOf(run);
            for (int i = 0; i < Rails.BRANCHES; i++) {
                int behind = rails.behind(run, i);
                if (rails.isOpen(behind) && found[behind] == NONE) {
                    settle(rails, behind, cost);
                }
            }
        }

        private void settle(Rails rails, int run, int cost) {
            found[run] = cost;
            if (rails.isStraight(run)) {
                straights.add(run);
            } else {
                curves.add(run);
            }
        }

        /**
         * Takes the settled run from which those behind it are reached at least cost. All runs of one
         * queue are of one length, and are settled by rising costs, so that it is the first of one.
         */
        private int takeNearest() {
            int straight = straights.first();
            int curve = curves.first();
            if (straight == NONE) {
                return curves.take();
            }
            if (curve == NONE) {
                return straights.take();
            }
            int overStraight = found[straight] + Rails.STRAIGHT_LENGTH;
            int overCurve = found[curve] + Rails.CURVE_LENGTH;
            return overStraight <= overCurve ? straights.take() : curves.take();
        }

        /** The next run with the least length and cost together, while the row holds costs. */
        int cheapestAhead(Rails rails, int run) {
            int best = NONE;
            int least = 0;
            for (int i = 0; i < Rails.BRANCHES; i++) {
                int ahead = rails.ahead(run, i);
                if (rails.isOpen(ahead) && found[ahead] != NONE) {
                    int sum = rails.lengthOf(ahead) + found[ahead];
                    if (best == NONE || sum < least) {
                        best = ahead;
                        least = sum;
                    }
                }
            }
            return best;
        }
    }

    /** Numbers in the order in which they came; it has room for as many as one search adds. */
    private static final class Queue {
        private final int[] row;
        private int head;
        private int tail;

        Queue(int room) {
            row = new int[Math.max(0, room)];
        }

        void clear() {
            head = 0;
            tail = 0;
        }

        boolean isEmpty() {
            return head >= tail;
        }

        void add(int number) {
            if (tail < row.length) {
                row[tail] = number;
                tail++;
            }
        }

        int first() {
            return isEmpty() ? NONE : row[head];
        }

        int take() {
            if (isEmpty()) {
                return NONE;
            }
            int number = row[head];
            head++;
            return number;
        }
    }
}
