import java.util.ArrayList;
import java.util.List;

/**
 * Each sentence of the document that names a boundary case, in the document's words and order, with a test
 * of its own: too small, too large, empty, full, a wrap-around, a refused call. No object gets more than
 * the 512 calls for which the document promises anything.
 */
public final class BoundaryTests {
    private static final int NONE = RouteTracks.NONE;
    private static final int MIN = Integer.MIN_VALUE;
    private static final int MAX = Integer.MAX_VALUE;
    private static final String INDEX = "IndexOutOfBoundsException";
    private static final String ARGUMENT = "IllegalArgumentException";
    private static final String NOTHING = "nothing";

    /** The edges of the kinds: an even run goes from the first to the second, an odd one back. */
    private static final String[] EDGES = {"WE", "NS", "NE", "SE", "SW", "NW"};

    /** Among them numbers whose products with 2, 4, 6 or 12 wrap around to 0 or to little more. */
    private static final int[] WILD = {
        MIN, MIN + 1, -1431655765, -1073741824, -715827882, -357913941, -357913940, -7, -6, -2, -1,
        357913942, 357913941, 715827882, 715827883, 1073741824, 1431655765, 1431655766, MAX - 1, MAX
    };

    private static int wrong = 0;
    private static int sentences = 0;
    private static String tested = "";

    private interface Call {
        void make();
    }

    public static void main(String[] args) {
        terms();
        changes();
        questions();
        System.out.println(sentences + " sentences, " + wrong + " answers are not as due");
        if (wrong != 0) {
            System.exit(1);
        }
    }

    private static void terms() {
        test("An object is used for at most 512 calls after it has been made", BoundaryTests::lastCalls);
        test("THE MAP has W times H TILES", BoundaryTests::tiles);
        test("tile W * y + x at column x, row y (row 0 in the north)", BoundaryTests::columnsAndRows);
        test("A tile may have PIECES of six KINDS, each from one edge to another", BoundaryTests::sixKinds);
        test("0 and 1 are STRAIGHT and 16 units long, the others 12", BoundaryTests::lengths);
        test("Two pieces MEET if they are in one tile, and are not 2 and 4, nor 3 and 5", BoundaryTests::meeting);
        test("run 2 * piece goes from its first edge to its second one", BoundaryTests::runs);
        test("the other run is CLOSED then", BoundaryTests::closed);
        test("A run is OPEN if its piece is there and it is not closed", BoundaryTests::open);
        test("(none beyond the map's border)", BoundaryTests::border);
        test("those open ones that begin at that same line between both tiles, by their pieces' kinds",
            BoundaryTests::byKinds);
        test("those of two tiles that end at the same line between these", BoundaryTests::sameLine);
        test("unless one of them has a signal for its run that goes to that line", BoundaryTests::signalToLine);
        test("all pieces to which one comes from it, from one to a touching one, and itself", BoundaryTests::blockOfOne);
        test("STATIONS 0 .. 7: straight pieces may belong to one", BoundaryTests::eightStations);
        test("The SIGN of a station: the lowest tile that has a piece of it", BoundaryTests::lowestTile);
        test("an open run of a piece of it that has no next run whose piece belongs to it, too", BoundaryTests::lastOfStation);
        test("0 for a target; else the least of the length of a next run plus its cost", BoundaryTests::leastCost);
        test("the least of the length of a next run plus its cost", () -> {
            costsOfFullMap();
            costsByTurns();
            costsOfStraights();
        });
        test("(ENDLESS, if it has none such)", BoundaryTests::endless);
        test("that next run whose length and cost together are least (of several the first)", BoundaryTests::firstOfSeveral);
        test("up to the first run that has a signal or is a target", BoundaryTests::routeEnds);
        test("Exceptions, in this order", BoundaryTests::orderOfExceptions);
        test("What throws changes nothing", BoundaryTests::refusedCallsChangeNothing);
        test("`NONE = -1`: None", () -> due("NONE", RouteTracks.NONE, -1));
    }

    private static void changes() {
        test("each 4 if it is less, 20 if it is more", BoundaryTests::sides);
        test("No pieces.", BoundaryTests::newObject);
        test("A piece comes.", BoundaryTests::pieceComes);
        test("IllegalArgumentException: it is there.", BoundaryTests::pieceIsThere);
        test("A piece goes, with its signal and station.", BoundaryTests::pieceGoes);
        test("IllegalArgumentException: it is not there.", BoundaryTests::pieceIsNotThere);
        test("way 0 for its even run, 1 for its odd one, NONE for none; its sort", BoundaryTests::ways);
        test("In place of one that it has", BoundaryTests::signalInPlace);
        test("the sort must be one for NONE, too", BoundaryTests::sortForNone);
        test("IllegalArgumentException: it is not there, or another way or sort.", BoundaryTests::otherWays);
        test("A straight piece's station, or NONE.", BoundaryTests::stationOrNone);
        test("(For a curve NONE is refused, too.)", BoundaryTests::noneForCurve);
        test("IndexOutOfBoundsException also for another station.", BoundaryTests::otherStation);
        test("IllegalArgumentException: it is not there, or a curve.", BoundaryTests::platformRefused);
        test("IndexOutOfBoundsException (no such tile, kind, station)", BoundaryTests::noSuchPlace);
    }

    private static void questions() {
        test("Of a tile: its pieces as bits (what = 0)", BoundaryTests::bits);
        test("of the piece of kind what - 1: 0 if it is not there, else 1", BoundaryTests::atAll);
        test("NONE for another what, or tile.", BoundaryTests::atOther);
        test("Next run k of a run; NONE if there is none such, or the run is not open.", BoundaryTests::nextNone);
        test("The lowest open run of which a run is a next", BoundaryTests::lowestBefore);
        test("NONE if there is none, or the run is not open.", BoundaryTests::beforeNone);
        test("The lowest piece of the block of a tile's piece of a kind", BoundaryTests::lowestOfBlock);
        test("NONE if it is not there.", BoundaryTests::blockNone);
        test("The sign of a station; NONE if it has none, or there is none such.", BoundaryTests::signNone);
        test("Whether a run is a target of a station; false also if one is none.", BoundaryTests::targetNone);
        test("NONE if it is endless, the run not open, or one of them none.", BoundaryTests::costNone);
        test("(k from 0 on, the run itself not counted)", BoundaryTests::routeFromZero);
        test("NONE if there is none such.", BoundaryTests::routeNone);
        test("How many pieces there are (what = 0), signals (1), pieces of stations (2), blocks (3).", BoundaryTests::counts);
        test("NONE for another what.", BoundaryTests::countOther);
    }

    private static void test(String sentence, Call test) {
        sentences++;
        tested = sentence;
        try {
            test.make();
        } catch (RuntimeException e) {
            wrong++;
            System.out.println("[" + tested + "] a call that should not threw " + e);
        }
    }

    private static void due(String call, Object got, Object want) {
        if (!got.equals(want)) {
            wrong++;
            System.out.println("[" + tested + "] " + call + " answered " + got + ", due is " + want);
        }
    }

    /** The very class counts: an ArrayIndexOutOfBoundsException is the machine's, not the document's. */
    private static void throwsDue(String call, String want, Call made) {
        String got = NOTHING;
        try {
            made.make();
        } catch (RuntimeException e) {
            got = e.getClass().getSimpleName();
        }
        due(call + " throws", got, want);
    }

    private static void countsDue(String when, RouteTracks x, int... counts) {
        for (int what = 0; what < 4; what++) {
            due("count(" + what + ") " + when, x.count(what), counts[what]);
        }
    }

    /** Asks for as many runs as are due, for three more, and for k that are none. */
    private static void routeDue(String when, RouteTracks x, int run, int station, int... runs) {
        for (int k = 0; k < runs.length + 3; k++) {
            due("route(" + run + ", " + station + ", " + k + ") " + when,
                x.route(run, station, k), k < runs.length ? runs[k] : NONE);
        }
        for (int k : new int[] {-1, MIN, MAX}) {
            due("route(" + run + ", " + station + ", " + k + ") " + when, x.route(run, station, k), NONE);
        }
    }

    private static int piece(int tile, int kind) {
        return 6 * tile + kind;
    }

    private static int even(int tile, int kind) {
        return 2 * piece(tile, kind);
    }

    private static int odd(int tile, int kind) {
        return 2 * piece(tile, kind) + 1;
    }

    private static char begin(int kind, int way) {
        return EDGES[kind].charAt(way);
    }

    private static char end(int kind, int way) {
        return EDGES[kind].charAt(1 - way);
    }

    private static boolean endsAt(int kind, char edge) {
        return EDGES[kind].indexOf(edge) >= 0;
    }

    private static char across(char edge) {
        return "EWSN".charAt("WENS".indexOf(edge));
    }

    private static int wayTo(int kind, char edge) {
        return end(kind, 0) == edge ? 0 : 1;
    }

    private static RouteTracks of(int width, int height, int... tilesAndKinds) {
        RouteTracks x = new RouteTracks(width, height);
        for (int i = 0; i < tilesAndKinds.length; i += 2) {
            x.lay(tilesAndKinds[i], tilesAndKinds[i + 1]);
        }
        return x;
    }

    private static RouteTracks fullOfFour() {
        RouteTracks x = new RouteTracks(4, 4);
        for (int piece = 95; piece >= 0; piece--) {
            x.lay(piece / 6, piece % 6);
        }
        return x;
    }

    private static RouteTracks row(int length) {
        RouteTracks x = new RouteTracks(20, 4);
        for (int tile = 0; tile < length; tile++) {
            x.lay(tile, 0);
        }
        return x;
    }

    /** The tile over an edge of tile 12, the middle of a map of 5 times 5. */
    private static int beside(char edge) {
        return edge == 'W' ? 11 : edge == 'E' ? 13 : edge == 'N' ? 7 : 17;
    }

    private static int straightFor(char edge) {
        return edge == 'W' || edge == 'E' ? 0 : 1;
    }

    /** Tile 12's piece of a kind, and a straight piece over each of its two edges. */
    private static RouteTracks middle(int kind) {
        RouteTracks x = of(5, 5, 12, kind);
        for (int way = 0; way < 2; way++) {
            char edge = end(kind, way);
            x.lay(beside(edge), straightFor(edge));
        }
        return x;
    }

    /** The straight run that goes away from tile 12 over an edge; its reverse comes to tile 12. */
    private static int away(char edge) {
        int straight = straightFor(edge);
        return 2 * piece(beside(edge), straight) + wayTo(straight, edge);
    }

    // The terms

    private static void lastCalls() {
        RouteTracks x = new RouteTracks(20, 20);
        for (int piece = 0; piece < 506; piece++) {
            x.lay(piece / 6, piece % 6);
        }
        x.platform(19, 0, 7);
        due("call 508, cost", x.cost(even(0, 0), 7), 19 * 16);
        due("call 509, route", x.route(even(0, 0), 7, 18), even(19, 0));
        due("call 510, block", x.block(84, 1), 0);
        due("call 511, count(3)", x.count(3), 1);
        due("call 512, count(0)", x.count(0), 506);
        RouteTracks y = new RouteTracks(4, 4);
        for (int i = 0; i < 255; i++) {
            y.lay(15, 5);
            y.lift(15, 5);
        }
        y.lay(15, 5);
        throwsDue("call 512, lay", ARGUMENT, () -> y.lay(15, 5));
    }

    private static void tiles() {
        int[][] sizes = {{4, 4}, {4, 20}, {20, 4}, {20, 20}, {7, 5}};
        for (int[] size : sizes) {
            int tiles = size[0] * size[1];
            String map = " on " + size[0] + " times " + size[1];
            RouteTracks x = new RouteTracks(size[0], size[1]);
            throwsDue("lay in the first tile" + map, NOTHING, () -> x.lay(0, 0));
            throwsDue("lay in the last tile" + map, NOTHING, () -> x.lay(tiles - 1, 5));
            throwsDue("lay in one tile more" + map, INDEX, () -> x.lay(tiles, 0));
            throwsDue("lay in tile -1" + map, INDEX, () -> x.lay(-1, 5));
            due("at the last tile" + map, x.at(tiles - 1, 0), 32);
            due("at one tile more" + map, x.at(tiles, 0), NONE);
            due("block in the last tile" + map, x.block(tiles - 1, 5), piece(tiles - 1, 5));
            due("block in one tile more" + map, x.block(tiles, 0), NONE);
            due("count(0)" + map, x.count(0), 2);
        }
    }

    private static void columnsAndRows() {
        RouteTracks x = of(7, 5, 16, 0, 17, 0, 18, 0, 10, 1, 17, 1, 24, 1);
        due("to the east", x.next(even(17, 0), 0), even(18, 0));
        due("to the west", x.next(odd(17, 0), 0), odd(16, 0));
        due("to the north", x.next(odd(17, 1), 0), odd(10, 1));
        due("to the south", x.next(even(17, 1), 0), even(24, 1));
        due("from the west", x.before(even(17, 0)), even(16, 0));
        due("from the north", x.before(even(17, 1)), even(10, 1));
        // Width and height are not the same here: tile 17 would be elsewhere, if one stood for the other.
        RouteTracks y = of(5, 7, 12, 1, 17, 1, 10, 1);
        due("to the north, five wide", y.next(odd(17, 1), 0), odd(12, 1));
        due("to the south, five wide", y.next(even(10, 1), 0), NONE);
    }

    private static void sixKinds() {
        for (int kind = 0; kind < 6; kind++) {
            RouteTracks x = new RouteTracks(5, 5);
            x.lay(12, kind);
            for (char edge : new char[] {'W', 'E', 'N', 'S'}) {
                x.lay(beside(edge), straightFor(edge));
                boolean ends = endsAt(kind, edge);
                due("next of kind " + kind + " from edge " + edge, x.next(away(edge) ^ 1, 0),
                    ends ? 2 * piece(12, kind) + 1 - wayTo(kind, edge) : NONE);
            }
        }
        RouteTracks x = of(4, 4, 5, 0, 5, 1, 5, 2, 5, 3, 5, 4, 5, 5);
        due("at(5, 0), full", x.at(5, 0), 63);
        throwsDue("a seventh kind", INDEX, () -> x.lay(5, 6));
        throwsDue("a kind below the first", INDEX, () -> x.lay(5, -1));
        due("at(4, 0) beside it", x.at(4, 0), 0);
        due("at(6, 0) beside it", x.at(6, 0), 0);
    }

    private static void lengths() {
        for (int kind = 0; kind < 6; kind++) {
            for (int way = 0; way < 2; way++) {
                RouteTracks x = middle(kind);
                int target = away(end(kind, way));
                x.platform(target / 12, target / 2 % 6, 0);
                String run = " of kind " + kind + ", way " + way;
                due("cost" + run, x.cost(2 * piece(12, kind) + way, 0), 16);
                due("cost before it" + run, x.cost(away(begin(kind, way)) ^ 1, 0), (kind < 2 ? 16 : 12) + 16);
            }
        }
    }

    private static void meeting() {
        for (int one = 0; one < 6; one++) {
            for (int other = 0; other < 6; other++) {
                RouteTracks x = of(4, 4, 5, one);
                if (other != one) {
                    x.lay(5, other);
                }
                boolean apart = Math.abs(one - other) == 2 && Math.min(one, other) >= 2;
                String both = " of kinds " + one + " and " + other;
                due("block(one)" + both, x.block(5, one), piece(5, apart ? one : Math.min(one, other)));
                due("block(other)" + both, x.block(5, other), piece(5, apart ? other : Math.min(one, other)));
                due("count(3)" + both, x.count(3), apart ? 2 : 1);
            }
        }
        countsDue("with the four curves", of(4, 4, 5, 2, 5, 4, 5, 3, 5, 5), 4, 0, 0, 1);
        // Come to the higher of both first, from a lower tile: the other one is still apart.
        for (int kind = 4; kind < 6; kind++) {
            RouteTracks y = of(4, 4, 5, kind - 2, 5, kind, 4, 0);
            due("block(5, " + kind + "), from tile 4 on", y.block(5, kind), piece(4, 0));
            due("block(5, " + (kind - 2) + ") beside it", y.block(5, kind - 2), piece(5, kind - 2));
        }
        // Pieces of a tile meet whatever signals they have.
        RouteTracks x = of(4, 4, 5, 0, 5, 1);
        for (int both = 0; both < 16; both++) {
            x.signal(5, 0, both & 1, both >> 1 & 1);
            x.signal(5, 1, both >> 2 & 1, both >> 3);
            due("count(3) with two signals", x.count(3), 1);
        }
    }

    private static void runs() {
        for (int kind = 0; kind < 6; kind++) {
            RouteTracks x = middle(kind);
            for (int way = 0; way < 2; way++) {
                int run = 2 * piece(12, kind) + way;
                due("next(" + run + ", 0)", x.next(run, 0), away(end(kind, way)));
                due("before(" + run + ")", x.before(run), away(begin(kind, way)) ^ 1);
            }
        }
        // Piece 0 and the last one: the lowest run of all and the highest.
        RouteTracks x = of(4, 4, 0, 0, 1, 0, 15, 5, 14, 0, 11, 1);
        due("next(0, 0)", x.next(0, 0), even(1, 0));
        due("next(190, 0)", x.next(190, 0), odd(14, 0));
        due("next(191, 0)", x.next(191, 0), odd(11, 1));
        due("before(190)", x.before(190), even(11, 1));
        due("before(191)", x.before(191), even(14, 0));
        due("before(1)", x.before(1), odd(1, 0));
    }

    private static void closed() {
        for (int kind = 0; kind < 6; kind++) {
            RouteTracks x = middle(kind);
            for (int i = 0; i < 4; i++) {
                int way = i & 1;
                x.signal(12, kind, way, i >> 1);
                int open = 2 * piece(12, kind) + way;
                String when = " with a signal for run " + open;
                due("next of it" + when, x.next(open, 0), away(end(kind, way)));
                due("before it" + when, x.before(open), away(begin(kind, way)) ^ 1);
                due("next of the other" + when, x.next(open ^ 1, 0), NONE);
                due("before the other" + when, x.before(open ^ 1), NONE);
                due("next that would be it" + when, x.next(away(begin(kind, way)) ^ 1, 0), open);
                due("next that would be the other" + when, x.next(away(end(kind, way)) ^ 1, 0), NONE);
                due("before, not the other" + when, x.before(away(begin(kind, way))), NONE);
            }
            x.signal(12, kind, NONE, 0);
            due("next of the even run, open again", x.next(even(12, kind), 0), away(end(kind, 0)));
            due("next of the odd run, open again", x.next(odd(12, kind), 0), away(end(kind, 1)));
        }
    }

    private static void open() {
        RouteTracks x = of(4, 4, 5, 0, 6, 0);
        due("next, there", x.next(even(5, 0), 0), even(6, 0));
        due("next, not there", x.next(even(5, 1), 0), NONE);
        x.lift(6, 0);
        due("next, its next lifted", x.next(even(5, 0), 0), NONE);
        due("next, lifted", x.next(odd(6, 0), 0), NONE);
        x.lay(6, 0);
        x.lift(5, 0);
        due("next of a run that would go to what is there", x.next(even(5, 0), 0), NONE);
        due("before, the one before lifted", x.before(even(6, 0)), NONE);
    }

    private static int overEdge(int tile, char edge) {
        int x = tile % 4 + (edge == 'E' ? 1 : edge == 'W' ? -1 : 0);
        int y = tile / 4 + (edge == 'S' ? 1 : edge == 'N' ? -1 : 0);
        return x < 0 || x > 3 || y < 0 || y > 3 ? NONE : 4 * y + x;
    }

    /** On a full map each run has three next ones, but for those that go over the border, which have none. */
    private static void border() {
        for (int k = 0; k < 3; k++) {
            RouteTracks x = fullOfFour();
            for (int run = 0; run < 192; run++) {
                char edge = end(run / 2 % 6, run % 2);
                int tile = overEdge(run / 12, edge);
                due("next(" + run + ", " + k + ")", x.next(run, k), tile == NONE ? NONE : beginning(tile, across(edge), k));
            }
        }
        RouteTracks x = fullOfFour();
        for (int run = 0; run < 192; run++) {
            char edge = begin(run / 2 % 6, run % 2);
            int tile = overEdge(run / 12, edge);
            due("before(" + run + ")", x.before(run), tile == NONE ? NONE : beginning(tile, across(edge), 0) ^ 1);
        }
        due("next(.., 3)", x.next(even(5, 0), 3), NONE);
        // Rows and columns do not wrap around for blocks either.
        countsDue("over the east and west border", of(4, 4, 3, 0, 4, 0, 7, 0, 8, 0), 4, 0, 0, 4);
        countsDue("over the north and south border", of(4, 4, 0, 1, 12, 1, 3, 1, 15, 1), 4, 0, 0, 4);
        RouteTracks y = of(4, 4, 3, 0, 4, 0);
        y.platform(4, 0, 0);
        due("cost over the border", y.cost(even(3, 0), 0), NONE);
        due("cost over the west border", y.cost(odd(3, 0), 0), NONE);
    }

    /** Of a full tile's runs that begin at an edge, the k-th by kinds. */
    private static int beginning(int tile, char edge, int k) {
        int seen = 0;
        for (int kind = 0; kind < 6; kind++) {
            if (endsAt(kind, edge)) {
                if (seen == k) {
                    return 2 * piece(tile, kind) + 1 - wayTo(kind, edge);
                }
                seen++;
            }
        }
        return NONE;
    }

    private static void byKinds() {
        // Whichever is laid first, and whatever the lowest run's way is.
        int[][] orders = {{0, 4, 5}, {5, 4, 0}, {4, 5, 0}};
        for (int[] order : orders) {
            RouteTracks x = of(4, 4, 5, 0, 6, 1, 6, 2, 6, 3);
            for (int kind : order) {
                x.lay(6, kind);
            }
            due("next 0", x.next(even(5, 0), 0), even(6, 0));
            due("next 1", x.next(even(5, 0), 1), odd(6, 4));
            due("next 2", x.next(even(5, 0), 2), odd(6, 5));
            x.signal(6, 0, 1, 1);
            due("next 0, one closed", x.next(even(5, 0), 0), odd(6, 4));
            due("next 1, one closed", x.next(even(5, 0), 1), odd(6, 5));
            due("next 2, one closed", x.next(even(5, 0), 2), NONE);
            x.signal(6, 5, 0, 0);
            due("next 1, two closed", x.next(even(5, 0), 1), NONE);
            x.signal(6, 4, 0, 0);
            due("next 0, all closed", x.next(even(5, 0), 0), NONE);
        }
    }

    private static void sameLine() {
        for (int one = 0; one < 6; one++) {
            for (int other = 0; other < 6; other++) {
                String both = " of kinds " + one + " and " + other;
                boolean beside = endsAt(one, 'E') && endsAt(other, 'W');
                boolean below = endsAt(one, 'S') && endsAt(other, 'N');
                due("side by side" + both, of(4, 4, 5, one, 6, other).count(3), beside ? 1 : 2);
                due("one below the other" + both, of(4, 4, 5, one, 9, other).count(3), below ? 1 : 2);
                due("cornerwise" + both, of(4, 4, 5, one, 10, other).count(3), 2);
                due("two tiles apart" + both, of(4, 4, 5, one, 7, other).count(3), 2);
            }
        }
    }

    private static void signalToLine() {
        for (int one = 0; one < 6; one++) {
            for (int other = 0; other < 6; other++) {
                if (endsAt(one, 'E') && endsAt(other, 'W')) {
                    signalsOf(5, one, 6, other, 'E');
                }
                if (endsAt(one, 'S') && endsAt(other, 'N')) {
                    signalsOf(5, one, 9, other, 'S');
                }
            }
        }
    }

    /** All signals of two pieces that end at one line: each is none, to the line or away from it, of each sort. */
    private static void signalsOf(int tile, int kind, int otherTile, int otherKind, char edge) {
        RouteTracks x = of(4, 4, tile, kind, otherTile, otherKind);
        for (int mine = 0; mine < 6; mine++) {
            for (int its = 0; its < 6; its++) {
                int to = wayTo(kind, edge);
                int itsTo = wayTo(otherKind, across(edge));
                x.signal(tile, kind, mine % 3 == 0 ? NONE : mine % 3 == 1 ? to : 1 - to, mine / 3);
                x.signal(otherTile, otherKind, its % 3 == 0 ? NONE : its % 3 == 1 ? itsTo : 1 - itsTo, its / 3);
                boolean parted = mine % 3 == 1 || its % 3 == 1;
                String call = "block(" + otherTile + ", " + otherKind + ") beside " + tile + ", " + kind;
                due(call + " with signals " + mine + ", " + its, x.block(otherTile, otherKind),
                    parted ? piece(otherTile, otherKind) : piece(tile, kind));
            }
        }
    }

    private static void blockOfOne() {
        for (int kind = 0; kind < 6; kind++) {
            RouteTracks x = of(4, 4, 15, kind);
            due("block(15, " + kind + ") alone", x.block(15, kind), piece(15, kind));
            x.signal(15, kind, 1, 1);
            due("block(15, " + kind + ") with a signal", x.block(15, kind), piece(15, kind));
            due("count(3)", x.count(3), 1);
        }
        // The way round leads past a signal: both its sides are one block then.
        RouteTracks x = of(4, 4, 0, 3, 1, 4, 4, 2, 5, 5);
        x.signal(0, 3, 0, 0);
        due("block round a ring", x.block(1, 4), piece(0, 3));
        x.signal(5, 5, 1, 0);
        due("block of a piece cut off on both sides", x.block(1, 4), piece(1, 4));
        due("block of all the others", x.block(5, 5), piece(0, 3));
        x.signal(5, 5, 0, 0);
        due("block of one half of a ring", x.block(5, 5), piece(1, 4));
        due("block of the other half", x.block(4, 2), piece(0, 3));
        due("count(3) of a ring in two parts", x.count(3), 2);
        x.signal(4, 2, 1, 0);
        due("count(3) of a ring in three parts", x.count(3), 3);
    }

    private static void eightStations() {
        RouteTracks x = of(4, 4, 0, 0, 0, 1, 15, 1);
        throwsDue("platform(.., 0)", NOTHING, () -> x.platform(0, 0, 0));
        throwsDue("platform(.., 7)", NOTHING, () -> x.platform(15, 1, 7));
        throwsDue("platform(.., 8)", INDEX, () -> x.platform(0, 1, 8));
        throwsDue("platform(.., -2)", INDEX, () -> x.platform(0, 1, -2));
        due("at station 0", x.at(0, 1), 33);
        due("at station 7", x.at(15, 2), 1 + 32 * 8);
        due("at no station", x.at(0, 2), 1);
        x.platform(0, 1, 7);
        due("two straight pieces of a tile, station 0", x.sign(0), 0);
        due("two straight pieces of a tile, station 7", x.sign(7), 0);
        x.platform(0, 0, 7);
        due("a piece of one station alone", x.sign(0), NONE);
        countsDue("with three pieces of one station", x, 3, 0, 3, 2);
    }

    private static void lowestTile() {
        RouteTracks x = of(20, 20, 399, 1, 399, 0, 20, 0, 0, 1, 1, 0);
        x.platform(399, 0, 3);
        due("sign, the last tile alone", x.sign(3), 399);
        x.platform(399, 1, 3);
        due("sign, both pieces of the last tile", x.sign(3), 399);
        // Lower as a tile, though its column is the first.
        x.platform(20, 0, 3);
        due("sign, row 1", x.sign(3), 20);
        x.platform(0, 1, 3);
        due("sign, tile 0", x.sign(3), 0);
        x.platform(1, 0, 3);
        due("sign, tile 0 still", x.sign(3), 0);
        x.lift(0, 1);
        due("sign, tile 0 lifted", x.sign(3), 1);
        x.lay(0, 1);
        due("sign, tile 0 laid anew", x.sign(3), 1);
    }

    private static void lastOfStation() {
        RouteTracks x = of(4, 4, 0, 0, 1, 0, 2, 0, 3, 0, 1, 1);
        x.platform(3, 0, 1);
        due("alone at the border, to it", x.isTarget(even(3, 0), 1), true);
        due("alone at the border, from it", x.isTarget(odd(3, 0), 1), true);
        x.platform(2, 0, 2);
        due("the next one is another's", x.isTarget(odd(3, 0), 1), true);
        due("the next one is another's, too", x.isTarget(even(2, 0), 2), true);
        x.platform(2, 0, 1);
        due("the next one is its own", x.isTarget(odd(3, 0), 1), false);
        due("the last of two", x.isTarget(odd(2, 0), 1), true);
        due("the next one is its own, eastward", x.isTarget(even(2, 0), 1), false);
        x.platform(0, 0, 1);
        due("a gap between: the next one is none's", x.isTarget(even(0, 0), 1), true);
        x.platform(1, 1, 1);
        due("a piece that meets the next one, not gone to", x.isTarget(even(0, 0), 1), true);
        x.platform(1, 0, 1);
        due("the gap is filled", x.isTarget(even(0, 0), 1), false);
        x.signal(1, 0, 1, 0);
        due("the next one is closed", x.isTarget(even(0, 0), 1), true);
        due("the closed run itself", x.isTarget(even(1, 0), 1), false);
        x.lift(1, 0);
        due("the next one is lifted", x.isTarget(even(0, 0), 1), true);
    }

    private static void leastCost() {
        RouteTracks x = row(20);
        x.platform(19, 0, 7);
        due("cost of the target", x.cost(even(19, 0), 7), 0);
        due("cost of the other target", x.cost(odd(19, 0), 7), 0);
        due("cost of one step", x.cost(even(18, 0), 7), 16);
        due("cost over the whole row", x.cost(even(0, 0), 7), 304);
        x.platform(18, 0, 7);
        due("cost over a platform of two", x.cost(even(0, 0), 7), 304);
        due("cost of a run of it that is no target", x.cost(even(18, 0), 7), 16);
        due("cost of its target", x.cost(odd(18, 0), 7), 0);
        // A target costs 0, though it could go on to another one.
        x.platform(10, 0, 7);
        due("cost of a target on the way", x.cost(even(10, 0), 7), 0);
        due("cost up to a target on the way", x.cost(even(9, 0), 7), 16);
        due("cost behind a target on the way", x.cost(even(11, 0), 7), 8 * 16);
        // Three next runs with 16 + 16, 12 + 12 + 16 and 12 + 16 to go: the last of them is the least.
        RouteTracks y = of(4, 4, 4, 0, 5, 0, 6, 0, 5, 4, 9, 2, 10, 0, 5, 5, 1, 1);
        y.platform(6, 0, 0);
        y.platform(10, 0, 0);
        y.platform(1, 1, 0);
        due("cost, the last next run is the least", y.cost(even(4, 0), 0), 28);
        y.lift(1, 1);
        due("cost, the first next run is the least", y.cost(even(4, 0), 0), 32);
        y.lift(6, 0);
        due("cost, the middle next run is the least", y.cost(even(4, 0), 0), 40);
    }

    /** The document's own equation, for each run of a full map, from a target in its first or last tile. */
    private static void costsOfFullMap() {
        for (int target : new int[] {piece(0, 0), piece(15, 1), piece(6, 0)}) {
            RouteTracks x = fullOfFour();
            x.platform(target / 6, target % 6, 4);
            int[] costs = new int[192];
            for (int run = 0; run < 192; run++) {
                costs[run] = x.cost(run, 4);
            }
            for (int run = 0; run < 192; run++) {
                due("cost(" + run + ", 4) of a full map with piece " + target + " of it",
                    costs[run], run / 2 == target ? 0 : leastAhead(run, costs));
            }
        }
    }

    private static int leastAhead(int run, int[] costs) {
        char edge = end(run / 2 % 6, run % 2);
        int tile = overEdge(run / 12, edge);
        int least = NONE;
        for (int k = 0; k < 3 && tile != NONE; k++) {
            int next = beginning(tile, across(edge), k);
            int sum = (next / 2 % 6 < 2 ? 16 : 12) + costs[next];
            if (costs[next] != NONE && (least == NONE || sum < least)) {
                least = sum;
            }
        }
        return least;
    }

    /** Asked by turns of all stations, so that each call has to look at the whole of a full map anew. */
    private static void costsByTurns() {
        RouteTracks x = fullOfFour();
        for (int station = 0; station < 8; station++) {
            x.platform(station, 1, station);
        }
        int[] first = new int[8];
        for (int i = 0; i < 400; i++) {
            int station = i % 8;
            int got = x.cost(even(13, 2), station);
            first[station] = i < 8 ? got : first[station];
            due("cost to station " + station + ", asked " + i / 8 + " times before", got, first[station]);
        }
        // By tile 14's odd run of kind 5 and tile 10's even one of kind 4, westward to tile 9, and north.
        due("cost over curves to station 5", first[5], 12 + 12 + 12 + 16);
    }

    /** All straight runs are targets or lead to one. */
    private static void costsOfStraights() {
        RouteTracks x = new RouteTracks(4, 4);
        for (int tile = 0; tile < 16; tile++) {
            x.lay(tile, 0);
            x.lay(tile, 1);
        }
        for (int i = 0; i < 4; i++) {
            x.platform(4 * i, 0, 0);
            x.platform(4 * i + 3, 0, 0);
            x.platform(i, 1, 0);
            x.platform(12 + i, 1, 0);
        }
        int[] forward = {0, 32, 16, 0};
        for (int tile = 0; tile < 16; tile++) {
            due("cost to the east", x.cost(even(tile, 0), 0), forward[tile % 4]);
            due("cost to the west", x.cost(odd(tile, 0), 0), forward[3 - tile % 4]);
            due("cost to the south", x.cost(even(tile, 1), 0), forward[tile / 4]);
            due("cost to the north", x.cost(odd(tile, 1), 0), forward[3 - tile / 4]);
        }
    }

    private static void endless() {
        RouteTracks x = of(4, 4, 0, 3, 1, 4, 4, 2, 5, 5, 2, 0);
        x.platform(2, 0, 0);
        for (int run : new int[] {even(0, 3), odd(0, 3), even(1, 4), odd(1, 4), even(4, 2), odd(5, 5)}) {
            due("cost(" + run + ", 0) in a ring without a target", x.cost(run, 0), NONE);
        }
        x.lift(2, 0);
        due("cost to a station without pieces", x.cost(even(0, 3), 0), NONE);
        RouteTracks y = of(4, 4, 0, 0, 1, 0, 3, 0);
        y.platform(3, 0, 0);
        due("cost, a gap on the way", y.cost(even(0, 0), 0), NONE);
        due("cost, away from it", y.cost(odd(1, 0), 0), NONE);
        y.lay(2, 0);
        y.signal(2, 0, 1, 1);
        due("cost, a closed run on the way", y.cost(even(0, 0), 0), NONE);
        y.signal(2, 0, 0, 1);
        due("cost, a signal on the way", y.cost(even(0, 0), 0), 48);
        // The only target is closed; its reverse is not to be come to from here.
        y.signal(3, 0, 1, 0);
        due("cost, the target closed", y.cost(even(0, 0), 0), NONE);
        due("cost of the closed run", y.cost(even(3, 0), 0), NONE);
        due("cost of the target that is left", y.cost(odd(3, 0), 0), 0);
    }

    private static void firstOfSeveral() {
        // Ahead by 16 and 28, or by 12 and 32, or by 12 and 32 on the other side.
        RouteTracks x = of(4, 5, 8, 0, 9, 0, 10, 4, 14, 1, 9, 4, 13, 1, 17, 1, 9, 5, 5, 1, 1, 1);
        x.platform(14, 1, 0);
        x.platform(17, 1, 0);
        x.platform(1, 1, 0);
        due("cost over any", x.cost(even(8, 0), 0), 44);
        due("the first of three", x.route(even(8, 0), 0, 0), even(9, 0));
        x.lift(9, 0);
        due("the first of two", x.route(even(8, 0), 0, 0), odd(9, 4));
        x.lift(9, 4);
        due("the only one", x.route(even(8, 0), 0, 0), odd(9, 5));
        x.lay(9, 4);
        x.lay(9, 0);
        due("the first of three, laid last", x.route(even(8, 0), 0, 0), even(9, 0));
        // Neither the least length alone nor the least cost alone decides.
        RouteTracks y = of(4, 4, 4, 0, 5, 0, 6, 0, 5, 4, 9, 1, 13, 1);
        y.platform(6, 0, 0);
        y.platform(13, 1, 0);
        due("a shorter run with a higher cost", y.route(even(4, 0), 0, 0), even(5, 0));
        y.platform(9, 1, 0);
        y.platform(13, 1, NONE);
        due("a shorter run with the same cost", y.route(even(4, 0), 0, 0), odd(5, 4));
        // An endless next run is left out, though it stands first.
        RouteTracks z = of(4, 4, 4, 0, 5, 0, 5, 4, 9, 1);
        z.platform(9, 1, 0);
        due("an endless one left out", z.route(even(4, 0), 0, 0), odd(5, 4));
    }

    private static void routeEnds() {
        RouteTracks x = row(6);
        x.platform(5, 0, 3);
        routeDue("to the target", x, even(3, 0), 3, even(4, 0), even(5, 0));
        x.signal(4, 0, 0, 0);
        routeDue("to a PATH signal", x, even(2, 0), 3, even(3, 0), even(4, 0));
        x.signal(4, 0, 0, 1);
        routeDue("to a BLOCK signal", x, even(2, 0), 3, even(3, 0), even(4, 0));
        routeDue("from a signal", x, even(4, 0), 3, even(5, 0));
        x.signal(3, 0, 0, 0);
        routeDue("to the first of two signals", x, even(2, 0), 3, even(3, 0));
        routeDue("from signal to signal", x, even(3, 0), 3, even(4, 0));
        x.signal(5, 0, 0, 1);
        routeDue("to a target with a signal", x, even(4, 0), 3, even(5, 0));
        // A signal of another piece in the same tile, and another station's target, end nothing.
        RouteTracks y = of(6, 4, 0, 0, 1, 0, 2, 0, 3, 0, 1, 1);
        y.signal(1, 1, 0, 0);
        y.platform(3, 0, 0);
        y.platform(1, 0, 1);
        routeDue("past a crossing signal", y, even(0, 0), 0, even(1, 0), even(2, 0), even(3, 0));
        routeDue("to the other station", y, even(0, 0), 1, even(1, 0));
        // Through a run of the station that is none of its targets.
        y.platform(2, 0, 0);
        routeDue("through a platform", y, even(0, 0), 0, even(1, 0), even(2, 0), even(3, 0));
        RouteTracks z = row(20);
        z.platform(12, 0, 1);
        z.platform(14, 0, 1);
        routeDue("to the first of two targets", z, even(10, 0), 1, even(11, 0), even(12, 0));
        routeDue("from between them", z, even(13, 0), 1, even(14, 0));
        z.platform(19, 0, 0);
        due("the last of a whole row", z.route(even(0, 0), 0, 18), even(19, 0));
        due("one more", z.route(even(0, 0), 0, 19), NONE);
    }

    private static void orderOfExceptions() {
        RouteTracks x = of(4, 4, 5, 0, 5, 2);
        throwsDue("lay: tile and kind", INDEX, () -> x.lay(16, 6));
        throwsDue("lift: tile and kind", INDEX, () -> x.lift(-1, 6));
        throwsDue("signal: tile, way, sort", INDEX, () -> x.signal(16, 0, 2, 2));
        throwsDue("signal: kind, way, sort", INDEX, () -> x.signal(5, 6, -2, -1));
        throwsDue("signal: kind, not there", INDEX, () -> x.signal(4, -1, 0, 0));
        throwsDue("platform: tile, curve", INDEX, () -> x.platform(16, 2, 0));
        throwsDue("platform: kind, not there", INDEX, () -> x.platform(4, 6, 0));
        throwsDue("platform: station, not there", INDEX, () -> x.platform(4, 0, 8));
        throwsDue("platform: station, a curve", INDEX, () -> x.platform(5, 2, 8));
        throwsDue("platform: station, a curve that is not there", INDEX, () -> x.platform(4, 2, -2));
        throwsDue("platform: tile, kind, station", INDEX, () -> x.platform(16, 6, 8));
        throwsDue("signal: not there, way, sort", ARGUMENT, () -> x.signal(4, 0, 2, 2));
        throwsDue("platform: not there, a curve", ARGUMENT, () -> x.platform(4, 2, 0));
        countsDue("after all that", x, 2, 0, 0, 1);
    }

    // What throws changes nothing: two like objects, one with a refused call more, answer all alike.

    private static RouteTracks net() {
        RouteTracks x = of(4, 4, 0, 3, 1, 0, 2, 4, 4, 1, 6, 1, 8, 2, 9, 0, 10, 5, 5, 0, 5, 4, 6, 0, 7, 0, 3, 3);
        x.signal(1, 0, 0, 1);
        x.signal(6, 1, 1, 0);
        x.signal(5, 4, 0, 0);
        x.platform(1, 0, 3);
        x.platform(9, 0, 7);
        x.platform(7, 0, 7);
        // So that what the object may have kept of an earlier answer is there at the refused call.
        x.count(3);
        x.cost(even(0, 3), 7);
        return x;
    }

    private static List<int[]> allQuestions() {
        List<int[]> all = new ArrayList<>();
        for (int tile = -1; tile <= 16; tile++) {
            for (int i = -1; i <= 7; i++) {
                all.add(new int[] {0, tile, i, 0});
                all.add(new int[] {3, tile, i, 0});
            }
        }
        for (int run = -1; run <= 192; run++) {
            for (int i = 0; i < 4; i++) {
                all.add(new int[] {1, run, i, 0});
                all.add(new int[] {7, run, 3, i});
                all.add(new int[] {7, run, 7, i});
            }
            all.add(new int[] {2, run, 0, 0});
            for (int station : new int[] {0, 3, 7}) {
                all.add(new int[] {5, run, station, 0});
                all.add(new int[] {6, run, station, 0});
            }
        }
        for (int i = -1; i <= 8; i++) {
            all.add(new int[] {4, i, 0, 0});
            all.add(new int[] {8, i, 0, 0});
        }
        return all;
    }

    private static int answer(RouteTracks x, int[] asked) {
        switch (asked[0]) {
            case 0: return x.at(asked[1], asked[2]);
            case 1: return x.next(asked[1], asked[2]);
            case 2: return x.before(asked[1]);
            case 3: return x.block(asked[1], asked[2]);
            case 4: return x.sign(asked[1]);
            case 5: return x.isTarget(asked[1], asked[2]) ? 1 : 0;
            case 6: return x.cost(asked[1], asked[2]);
            case 7: return x.route(asked[1], asked[2], asked[3]);
            default: return x.count(asked[1]);
        }
    }

    private interface Refused {
        void make(RouteTracks x);
    }

    private static void unchanged(String call, String want, Refused refused) {
        List<int[]> all = allQuestions();
        int most = 400;
        for (int from = 0; from < all.size(); from += most) {
            RouteTracks untouched = net();
            RouteTracks x = net();
            throwsDue(call, want, () -> refused.make(x));
            for (int[] asked : all.subList(from, Math.min(all.size(), from + most))) {
                due("question " + asked[0] + " of " + asked[1] + ", " + asked[2] + ", " + asked[3] + " after " + call,
                    answer(x, asked), answer(untouched, asked));
            }
        }
    }

    private static void refusedCallsChangeNothing() {
        unchanged("lay(1, 0)", ARGUMENT, x -> x.lay(1, 0));
        unchanged("lay(5, 4)", ARGUMENT, x -> x.lay(5, 4));
        unchanged("lay(16, 0)", INDEX, x -> x.lay(16, 0));
        unchanged("lay(-1, 6)", INDEX, x -> x.lay(-1, 6));
        unchanged("lay(0, 6)", INDEX, x -> x.lay(0, 6));
        unchanged("lay(1, -1)", INDEX, x -> x.lay(1, -1));
        unchanged("lift(1, 1)", ARGUMENT, x -> x.lift(1, 1));
        unchanged("lift(16, -6)", INDEX, x -> x.lift(16, -6));
        unchanged("lift(0, 6)", INDEX, x -> x.lift(0, 6));
        unchanged("lift(2, -6)", INDEX, x -> x.lift(2, -6));
        unchanged("signal(0, 0, 0, 0)", ARGUMENT, x -> x.signal(0, 0, 0, 0));
        unchanged("signal(1, 0, 2, 0)", ARGUMENT, x -> x.signal(1, 0, 2, 0));
        unchanged("signal(1, 0, -2, 0)", ARGUMENT, x -> x.signal(1, 0, -2, 0));
        unchanged("signal(1, 0, 1, 2)", ARGUMENT, x -> x.signal(1, 0, 1, 2));
        unchanged("signal(1, 0, NONE, -1)", ARGUMENT, x -> x.signal(1, 0, NONE, -1));
        unchanged("signal(1, 0, NONE, 2)", ARGUMENT, x -> x.signal(1, 0, NONE, 2));
        unchanged("signal(0, 6, 1, 0)", INDEX, x -> x.signal(0, 6, 1, 0));
        unchanged("signal(16, 0, 1, 0)", INDEX, x -> x.signal(16, 0, 1, 0));
        unchanged("platform(0, 0, 7)", ARGUMENT, x -> x.platform(0, 0, 7));
        unchanged("platform(0, 3, 7)", ARGUMENT, x -> x.platform(0, 3, 7));
        unchanged("platform(0, 3, NONE)", ARGUMENT, x -> x.platform(0, 3, NONE));
        unchanged("platform(1, 0, 8)", INDEX, x -> x.platform(1, 0, 8));
        unchanged("platform(1, 0, -2)", INDEX, x -> x.platform(1, 0, -2));
        unchanged("platform(0, 6, 7)", INDEX, x -> x.platform(0, 6, 7));
        unchanged("platform(-1, 0, 7)", INDEX, x -> x.platform(-1, 0, 7));
    }

    // Promises 1 to 5

    private static void sides() {
        int[][] sides = {
            {MIN, 4}, {-1, 4}, {0, 4}, {1, 4}, {3, 4}, {4, 4}, {5, 5}, {19, 19}, {20, 20}, {21, 20}, {400, 20}, {MAX, 20}
        };
        for (int[] width : sides) {
            for (int[] height : sides) {
                String made = "RouteTracks(" + width[0] + ", " + height[0] + ") ";
                RouteTracks x = new RouteTracks(width[0], height[0]);
                int w = width[1];
                int last = w * height[1] - 1;
                due(made + "last tile", x.at(last, 0), 0);
                due(made + "one tile more", x.at(last + 1, 0), NONE);
                x.lay(last, 1);
                x.lay(last - w, 1);
                x.lay(w - 1, 0);
                x.lay(w, 0);
                due(made + "one row up", x.next(odd(last, 1), 0), odd(last - w, 1));
                due(made + "the first row's end", x.next(even(w - 1, 0), 0), NONE);
            }
        }
    }

    private static void newObject() {
        RouteTracks x = new RouteTracks(4, 4);
        for (int tile = 0; tile < 16; tile++) {
            for (int what = 0; what <= 6; what++) {
                due("at(" + tile + ", " + what + ") of a new object", x.at(tile, what), 0);
            }
        }
        countsDue("of a new object", x, 0, 0, 0, 0);
        for (int station = 0; station < 8; station++) {
            due("sign(" + station + ") of a new object", x.sign(station), NONE);
            due("isTarget(0, " + station + ") of a new object", x.isTarget(0, station), false);
            due("cost(0, " + station + ") of a new object", x.cost(0, station), NONE);
            due("route(0, " + station + ", 0) of a new object", x.route(0, station, 0), NONE);
        }
        for (int kind = 0; kind < 6; kind++) {
            due("block(0, " + kind + ") of a new object", x.block(0, kind), NONE);
            due("next of a new object", x.next(even(5, kind), 0), NONE);
            due("before of a new object", x.before(odd(5, kind)), NONE);
            int laid = kind;
            throwsDue("lift(5, " + kind + ") of a new object", ARGUMENT, () -> x.lift(5, laid));
        }
    }

    private static void pieceComes() {
        RouteTracks x = new RouteTracks(4, 4);
        for (int piece = 0; piece < 96; piece++) {
            x.lay(piece / 6, piece % 6);
            due("at of piece " + piece, x.at(piece / 6, piece % 6 + 1), 1);
            due("count(0)", x.count(0), piece + 1);
        }
        countsDue("of a full map", x, 96, 0, 0, 1);
        for (int tile = 0; tile < 16; tile++) {
            int full = tile;
            throwsDue("lay(" + tile + ", 3) on a full map", ARGUMENT, () -> x.lay(full, 3));
        }
        due("at(0, 0) of a full map", x.at(0, 0), 63);
        due("at(15, 0) of a full map", x.at(15, 0), 63);
    }

    private static void pieceIsThere() {
        RouteTracks x = of(4, 4, 0, 0, 15, 5, 5, 1);
        x.platform(5, 1, 0);
        x.signal(5, 1, 1, 0);
        throwsDue("lay of piece 0", ARGUMENT, () -> x.lay(0, 0));
        throwsDue("lay of the last piece", ARGUMENT, () -> x.lay(15, 5));
        throwsDue("lay of one with signal and station", ARGUMENT, () -> x.lay(5, 1));
        due("at(5, 2) keeps both", x.at(5, 2), 1 + 8 + 32);
        x.lift(5, 1);
        throwsDue("lay of a lifted one", NOTHING, () -> x.lay(5, 1));
        throwsDue("lay of it again", ARGUMENT, () -> x.lay(5, 1));
        throwsDue("lay of another kind there", NOTHING, () -> x.lay(5, 0));
        throwsDue("lay of that kind elsewhere", NOTHING, () -> x.lay(6, 1));
    }

    private static void pieceGoes() {
        RouteTracks x = of(4, 4, 5, 0);
        x.lift(5, 0);
        countsDue("after the only piece went", x, 0, 0, 0, 0);
        due("block(5, 0)", x.block(5, 0), NONE);
        for (int mark = 0; mark < 4; mark++) {
            x.lay(5, 0);
            x.signal(5, 0, mark & 1, mark >> 1);
            x.platform(5, 0, 7);
            x.lift(5, 0);
            due("at(5, 1) of what went", x.at(5, 1), 0);
            countsDue("after it went with all", x, 0, 0, 0, 0);
            due("sign(7)", x.sign(7), NONE);
            x.lay(5, 0);
            due("at(5, 1), laid anew", x.at(5, 1), 1);
            countsDue("laid anew", x, 1, 0, 0, 1);
            due("isTarget, laid anew", x.isTarget(even(5, 0), 7), false);
            x.lift(5, 0);
        }
        RouteTracks y = fullOfFour();
        for (int piece = 0; piece < 96; piece++) {
            y.lift(piece / 6, piece % 6);
        }
        countsDue("after all of a full map went", y, 0, 0, 0, 0);
    }

    private static void pieceIsNotThere() {
        RouteTracks x = fullOfFour();
        x.lift(0, 0);
        throwsDue("lift of piece 0 again", ARGUMENT, () -> x.lift(0, 0));
        x.lift(15, 5);
        throwsDue("lift of the last piece again", ARGUMENT, () -> x.lift(15, 5));
        due("count(0)", x.count(0), 94);
        RouteTracks y = new RouteTracks(4, 4);
        for (int piece = 0; piece < 96; piece++) {
            int lifted = piece;
            throwsDue("lift of piece " + piece + " from an empty map", ARGUMENT, () -> y.lift(lifted / 6, lifted % 6));
        }
        countsDue("of an empty map", y, 0, 0, 0, 0);
    }

    private static void ways() {
        int[][] signals = {{0, 0, 1}, {1, 0, 2}, {0, 1, 3}, {1, 1, 4}, {NONE, 0, 0}, {NONE, 1, 0}};
        for (int kind = 0; kind < 6; kind++) {
            for (int[] given : signals) {
                RouteTracks x = of(4, 4, 15, kind);
                x.signal(15, kind, given[0], given[1]);
                String when = " of kind " + kind + " with way " + given[0] + ", sort " + given[1];
                due("at" + when, x.at(15, kind + 1), 1 + 4 * given[2]);
                due("count(1)" + when, x.count(1), given[0] == NONE ? 0 : 1);
            }
        }
        // Where none is, NONE is no fault.
        RouteTracks x = of(4, 4, 0, 0);
        throwsDue("signal(0, 0, NONE, 0) without one", NOTHING, () -> x.signal(0, 0, NONE, 0));
        throwsDue("signal(0, 0, NONE, 1) without one", NOTHING, () -> x.signal(0, 0, NONE, 1));
        due("at(0, 1)", x.at(0, 1), 1);
    }

    private static void signalInPlace() {
        RouteTracks x = of(4, 4, 5, 1);
        x.platform(5, 1, 7);
        int[][] signals = {{NONE, 0, 0}, {0, 0, 1}, {1, 0, 2}, {0, 1, 3}, {1, 1, 4}};
        for (int[] first : signals) {
            for (int[] second : signals) {
                x.signal(5, 1, first[0], first[1]);
                x.signal(5, 1, second[0], second[1]);
                String when = " with " + second[2] + " in place of " + first[2];
                due("at(5, 2)" + when, x.at(5, 2), 1 + 4 * second[2] + 32 * 8);
                due("count(1)" + when, x.count(1), second[2] == 0 ? 0 : 1);
            }
        }
        due("count(2)", x.count(2), 1);
    }

    private static void sortForNone() {
        RouteTracks x = of(4, 4, 5, 1);
        for (int with = 0; with < 2; with++) {
            for (int sort : new int[] {-1, 2, 3, MIN, MAX, 1 << 30, 1 << 31}) {
                throwsDue("signal(5, 1, NONE, " + sort + ")", ARGUMENT, () -> x.signal(5, 1, NONE, sort));
            }
            due("at(5, 2)", x.at(5, 2), with == 0 ? 1 : 1 + 4 * 4);
            x.signal(5, 1, 1, 1);
        }
        throwsDue("signal(5, 1, NONE, 1)", NOTHING, () -> x.signal(5, 1, NONE, 1));
        due("at(5, 2), gone", x.at(5, 2), 1);
    }

    private static void otherWays() {
        RouteTracks x = of(4, 4, 5, 1);
        x.signal(5, 1, 0, 1);
        for (int bad : new int[] {-2, -3, 2, 3, 4, MIN, MAX, 1 << 30}) {
            throwsDue("signal(5, 1, " + bad + ", 0)", ARGUMENT, () -> x.signal(5, 1, bad, 0));
            throwsDue("signal(5, 1, " + bad + ", 1)", ARGUMENT, () -> x.signal(5, 1, bad, 1));
            throwsDue("signal(5, 1, " + bad + ", 2)", ARGUMENT, () -> x.signal(5, 1, bad, 2));
        }
        for (int bad : new int[] {-1, -2, 2, 3, MIN, MAX, 1 << 30}) {
            throwsDue("signal(5, 1, 0, " + bad + ")", ARGUMENT, () -> x.signal(5, 1, 0, bad));
            throwsDue("signal(5, 1, 1, " + bad + ")", ARGUMENT, () -> x.signal(5, 1, 1, bad));
        }
        due("at(5, 2)", x.at(5, 2), 1 + 4 * 3);
        for (int kind : new int[] {0, 2, 3, 4, 5}) {
            for (int way = NONE; way < 2; way++) {
                int given = way;
                throwsDue("signal(5, " + kind + ", " + way + ", 0), not there", ARGUMENT, () -> x.signal(5, kind, given, 0));
            }
        }
        x.lift(5, 1);
        throwsDue("signal(5, 1, 0, 0), lifted", ARGUMENT, () -> x.signal(5, 1, 0, 0));
        throwsDue("signal(5, 1, NONE, 0), lifted", ARGUMENT, () -> x.signal(5, 1, NONE, 0));
        countsDue("with nothing there", x, 0, 0, 0, 0);
    }

    private static void stationOrNone() {
        for (int kind = 0; kind < 2; kind++) {
            RouteTracks x = of(4, 4, 15, kind);
            int straight = kind;
            throwsDue("platform(.., NONE) without one", NOTHING, () -> x.platform(15, straight, NONE));
            for (int station = 0; station < 8; station++) {
                x.platform(15, kind, station);
                due("at with station " + station, x.at(15, kind + 1), 1 + 32 * (station + 1));
                due("count(2) with station " + station, x.count(2), 1);
                due("sign(" + station + ")", x.sign(station), 15);
                due("sign(" + (station - 1) + ")", x.sign(station - 1), NONE);
                x.platform(15, kind, station);
                due("at with station " + station + " again", x.at(15, kind + 1), 1 + 32 * (station + 1));
            }
            throwsDue("platform(.., NONE)", NOTHING, () -> x.platform(15, straight, NONE));
            due("at without one", x.at(15, kind + 1), 1);
            due("count(2) without one", x.count(2), 0);
            due("sign(7) without one", x.sign(7), NONE);
        }
    }

    private static void noneForCurve() {
        RouteTracks x = fullOfFour();
        for (int kind = 2; kind < 6; kind++) {
            int curve = kind;
            throwsDue("platform(5, " + kind + ", NONE)", ARGUMENT, () -> x.platform(5, curve, NONE));
            x.signal(5, kind, 0, 0);
            throwsDue("platform(5, " + kind + ", NONE) with a signal", ARGUMENT, () -> x.platform(5, curve, NONE));
            due("at(5, " + (kind + 1) + ")", x.at(5, kind + 1), 5);
        }
    }

    private static void otherStation() {
        RouteTracks x = of(4, 4, 5, 0, 5, 2);
        x.platform(5, 0, 6);
        for (int station : new int[] {8, 9, 15, 16, 31, -2, -3, -8, MIN, MAX, 1 << 27, (1 << 27) - 1, 1 << 30}) {
            throwsDue("platform(5, 0, " + station + ")", INDEX, () -> x.platform(5, 0, station));
            throwsDue("platform(5, 2, " + station + "), a curve", INDEX, () -> x.platform(5, 2, station));
            throwsDue("platform(5, 1, " + station + "), not there", INDEX, () -> x.platform(5, 1, station));
        }
        due("at(5, 1)", x.at(5, 1), 1 + 32 * 7);
    }

    private static void platformRefused() {
        RouteTracks x = of(4, 4, 5, 2, 5, 3, 5, 4, 5, 5);
        for (int station = NONE; station < 8; station++) {
            int given = station;
            for (int kind = 0; kind < 6; kind++) {
                int refused = kind;
                String call = ", " + kind + ", " + station + ")";
                throwsDue("platform(5" + call, ARGUMENT, () -> x.platform(5, refused, given));
                throwsDue("platform(6" + call, ARGUMENT, () -> x.platform(6, refused, given));
            }
        }
        due("count(2)", x.count(2), 0);
        x.lay(5, 0);
        x.lift(5, 0);
        throwsDue("platform(5, 0, 0), lifted", ARGUMENT, () -> x.platform(5, 0, 0));
        throwsDue("platform(5, 0, NONE), lifted", ARGUMENT, () -> x.platform(5, 0, NONE));
    }

    private static void noSuchPlace() {
        RouteTracks empty = new RouteTracks(4, 4);
        RouteTracks full = fullOfFour();
        for (int wild : WILD) {
            placeRefused(empty, wild, 0);
            placeRefused(empty, 5, wild);
            placeRefused(full, wild, 0);
            placeRefused(full, 5, wild);
        }
        // Numbers that are none, though together they would make a piece's number.
        RouteTracks x = fullOfFour();
        placeRefused(x, -1, 6);
        placeRefused(x, 0, 6);
        placeRefused(x, 0, 95);
        placeRefused(x, 1, -6);
        placeRefused(x, 15, -90);
        placeRefused(x, 16, -1);
        placeRefused(x, 16, 0);
        placeRefused(x, 16, 5);
        countsDue("of a full map after all that", x, 96, 0, 0, 1);
    }

    private static void placeRefused(RouteTracks x, int tile, int kind) {
        String place = "(" + tile + ", " + kind + ", ..)";
        throwsDue("lay" + place, INDEX, () -> x.lay(tile, kind));
        throwsDue("lift" + place, INDEX, () -> x.lift(tile, kind));
        throwsDue("signal" + place, INDEX, () -> x.signal(tile, kind, 0, 0));
        throwsDue("platform" + place, INDEX, () -> x.platform(tile, kind, 0));
    }

    // Promises 6 to 14

    private static void bits() {
        RouteTracks x = new RouteTracks(4, 4);
        for (int tile : new int[] {0, 15}) {
            for (int kind = 0; kind < 6; kind++) {
                x.lay(tile, kind);
                due("at(" + tile + ", 0)", x.at(tile, 0), 1 << kind);
                x.signal(tile, kind, 1, 1);
                due("at(" + tile + ", 0) with a signal", x.at(tile, 0), 1 << kind);
                x.lift(tile, kind);
            }
            due("at(" + tile + ", 0), empty", x.at(tile, 0), 0);
            for (int kind = 5; kind >= 0; kind--) {
                x.lay(tile, kind);
            }
            due("at(" + tile + ", 0), full", x.at(tile, 0), 63);
        }
    }

    private static void atAll() {
        RouteTracks x = of(4, 4, 5, 0);
        for (int signal = 0; signal <= 4; signal++) {
            x.signal(5, 0, signal == 0 ? NONE : (signal - 1) % 2, signal > 2 ? 1 : 0);
            for (int station = NONE; station < 8; station++) {
                x.platform(5, 0, station);
                due("at(5, 1) with signal " + signal + ", station " + station,
                    x.at(5, 1), 1 + 4 * signal + 32 * (station + 1));
            }
        }
        for (int what = 2; what <= 6; what++) {
            due("at(5, " + what + "), not there", x.at(5, what), 0);
        }
        due("at(4, 6), before it", x.at(4, 6), 0);
        due("at(6, 1), behind it", x.at(6, 1), 0);
    }

    private static void atOther() {
        RouteTracks x = fullOfFour();
        for (int wild : WILD) {
            due("at(0, " + wild + ")", x.at(0, wild), NONE);
            due("at(" + wild + ", 0)", x.at(wild, 0), NONE);
            due("at(" + wild + ", 1)", x.at(wild, 1), NONE);
            due("at(" + wild + ", " + wild + ")", x.at(wild, wild), NONE);
        }
        due("at(0, 7)", x.at(0, 7), NONE);
        due("at(15, 7)", x.at(15, 7), NONE);
        due("at(1, -1)", x.at(1, -1), NONE);
        due("at(-1, 7)", x.at(-1, 7), NONE);
        due("at(16, 0)", x.at(16, 0), NONE);
        due("at(16, 1)", x.at(16, 1), NONE);
        due("at(16, 6)", x.at(16, 6), NONE);
        due("at(0, 6)", x.at(0, 6), 1);
        due("at(15, 6)", x.at(15, 6), 1);
    }

    private static void nextNone() {
        RouteTracks x = fullOfFour();
        for (int wild : WILD) {
            due("next(" + wild + ", 0)", x.next(wild, 0), NONE);
            due("next(" + even(5, 0) + ", " + wild + ")", x.next(even(5, 0), wild), NONE);
        }
        due("next(192, 0)", x.next(192, 0), NONE);
        due("next(193, 0)", x.next(193, 0), NONE);
        due("next(.., 2)", x.next(even(5, 0), 2), odd(6, 5));
        due("next(.., 3)", x.next(even(5, 0), 3), NONE);
        x.lift(6, 4);
        due("next(.., 1) of two", x.next(even(5, 0), 1), odd(6, 5));
        due("next(.., 2) of two", x.next(even(5, 0), 2), NONE);
        x.signal(5, 0, 1, 0);
        due("next(.., 0) of a closed run", x.next(even(5, 0), 0), NONE);
        due("next(.., 0) of its reverse", x.next(odd(5, 0), 0), odd(4, 0));
        x.lift(5, 0);
        due("next(.., 0) of what is not there", x.next(odd(5, 0), 0), NONE);
    }

    private static void lowestBefore() {
        // Before a run to the east stand the even runs of kinds 0, 2 and 3 in the tile west of it.
        int[] kinds = {0, 2, 3};
        for (int there = 0; there < 8; there++) {
            RouteTracks x = of(4, 4, 6, 0, 5, 1, 5, 4, 5, 5);
            int lowest = NONE;
            for (int i = 2; i >= 0; i--) {
                if ((there >> i & 1) == 1) {
                    x.lay(5, kinds[i]);
                    lowest = even(5, kinds[i]);
                }
            }
            due("before(" + even(6, 0) + ") with " + there, x.before(even(6, 0)), lowest);
            if (lowest != NONE) {
                x.signal(5, lowest / 2 % 6, 0, 1);
                due("before, the lowest with a signal for it", x.before(even(6, 0)), lowest);
                x.signal(5, lowest / 2 % 6, 1, 0);
                due("before, the lowest closed", x.before(even(6, 0)) == lowest, false);
            }
        }
    }

    private static void beforeNone() {
        RouteTracks x = fullOfFour();
        for (int wild : WILD) {
            due("before(" + wild + ")", x.before(wild), NONE);
        }
        due("before(192)", x.before(192), NONE);
        due("before(193)", x.before(193), NONE);
        due("before(191)", x.before(191), even(14, 0));
        x.signal(5, 0, 1, 0);
        due("before a closed run", x.before(even(5, 0)), NONE);
        due("before its reverse", x.before(odd(5, 0)), odd(6, 0));
        x.lift(5, 0);
        due("before what is not there", x.before(odd(5, 0)), NONE);
        RouteTracks y = of(4, 4, 5, 0, 6, 1);
        due("before, a piece beside that does not end there", y.before(odd(5, 0)), NONE);
        due("before, nothing beside", y.before(even(5, 0)), NONE);
    }

    private static void lowestOfBlock() {
        RouteTracks x = new RouteTracks(20, 20);
        for (int tile = 399; tile >= 0; tile--) {
            int line = tile / 20;
            int column = tile % 20;
            boolean right = line % 2 == 0;
            x.lay(tile, column == 19 ? (right ? 4 : 5) : column == 0 ? (right ? 2 : 3) : 0);
        }
        due("block at the end of the longest line", x.block(380, 3), piece(0, 2));
        due("block at its other end", x.block(1, 0), piece(0, 2));
        due("block beside its last tile", x.block(381, 0), piece(0, 2));
        due("count(3)", x.count(3), 1);
        // Behind this gap the line goes on westward, so that its lowest piece is none of its ends.
        x.lift(199, 5);
        due("block behind a gap", x.block(380, 3), piece(180, 3));
        due("block at the gap", x.block(198, 0), piece(180, 3));
        due("block before a gap", x.block(179, 4), piece(0, 2));
        x.lay(199, 5);
        x.signal(10, 0, 0, 0);
        due("block behind a signal", x.block(380, 3), piece(11, 0));
        due("block before a signal", x.block(10, 0), piece(0, 2));
        RouteTracks y = of(4, 4, 5, 5, 5, 3, 5, 1);
        due("block, the lowest of one tile", y.block(5, 5), piece(5, 1));
        y.lay(0, 0);
        due("block, a lower piece that does not touch", y.block(5, 5), piece(5, 1));
    }

    private static void blockNone() {
        RouteTracks x = fullOfFour();
        for (int wild : WILD) {
            due("block(" + wild + ", 0)", x.block(wild, 0), NONE);
            due("block(0, " + wild + ")", x.block(0, wild), NONE);
            due("block(" + wild + ", " + wild + ")", x.block(wild, wild), NONE);
        }
        due("block(0, 6)", x.block(0, 6), NONE);
        due("block(1, -1)", x.block(1, -1), NONE);
        due("block(-1, 6)", x.block(-1, 6), NONE);
        due("block(16, 0)", x.block(16, 0), NONE);
        due("block(16, -1)", x.block(16, -1), NONE);
        due("block(15, 5)", x.block(15, 5), 0);
        x.lift(15, 5);
        due("block(15, 5), lifted", x.block(15, 5), NONE);
        due("block(0, 0) of an empty map", new RouteTracks(4, 4).block(0, 0), NONE);
    }

    private static void signNone() {
        RouteTracks x = fullOfFour();
        for (int station = 0; station < 8; station++) {
            due("sign(" + station + ") without pieces", x.sign(station), NONE);
        }
        for (int station = 0; station < 7; station++) {
            x.platform(station, 0, station);
        }
        for (int wild : WILD) {
            due("sign(" + wild + ")", x.sign(wild), NONE);
        }
        due("sign(8)", x.sign(8), NONE);
        due("sign(7) without pieces, though all others have some", x.sign(7), NONE);
        due("sign(0)", x.sign(0), 0);
        due("sign(6)", x.sign(6), 6);
        x.platform(6, 0, NONE);
        due("sign(6), its only piece taken", x.sign(6), NONE);
        x.lift(0, 0);
        due("sign(0), its only piece lifted", x.sign(0), NONE);
    }

    private static void targetNone() {
        RouteTracks x = of(4, 4, 0, 0, 15, 1, 5, 2);
        x.platform(0, 0, 0);
        x.platform(15, 1, 7);
        for (int wild : WILD) {
            due("isTarget(" + wild + ", 0)", x.isTarget(wild, 0), false);
            due("isTarget(0, " + wild + ")", x.isTarget(0, wild), false);
            due("isTarget(" + wild + ", " + wild + ")", x.isTarget(wild, wild), false);
        }
        due("isTarget(0, 0)", x.isTarget(0, 0), true);
        due("isTarget(1, 0)", x.isTarget(1, 0), true);
        due("isTarget(0, 7)", x.isTarget(0, 7), false);
        due("isTarget(0, 8)", x.isTarget(0, 8), false);
        due("isTarget of the last tile's", x.isTarget(odd(15, 1), 7), true);
        due("isTarget(192, 7)", x.isTarget(192, 7), false);
        // A run that belongs to no station is no target of NONE, and what is not there of none at all.
        due("isTarget of a curve, NONE", x.isTarget(even(5, 2), NONE), false);
        due("isTarget of nothing, NONE", x.isTarget(even(9, 0), NONE), false);
        due("isTarget of nothing, 0", x.isTarget(even(9, 0), 0), false);
        x.signal(0, 0, 0, 0);
        due("isTarget, with a signal for it", x.isTarget(0, 0), true);
        due("isTarget, closed", x.isTarget(1, 0), false);
    }

    private static void costNone() {
        RouteTracks x = of(4, 4, 0, 0, 1, 0, 2, 0, 15, 5);
        x.platform(2, 0, 7);
        for (int wild : WILD) {
            due("cost(" + wild + ", 7)", x.cost(wild, 7), NONE);
            due("cost(0, " + wild + ")", x.cost(0, wild), NONE);
            due("cost(" + wild + ", " + wild + ")", x.cost(wild, wild), NONE);
        }
        due("cost(0, 7)", x.cost(0, 7), 32);
        due("cost(0, 8)", x.cost(0, 8), NONE);
        due("cost(0, 6), without pieces", x.cost(0, 6), NONE);
        due("cost(192, 7)", x.cost(192, 7), NONE);
        due("cost(191, 7), endless", x.cost(191, 7), NONE);
        due("cost(1, 7), endless", x.cost(1, 7), NONE);
        due("cost of what is not there", x.cost(even(3, 0), 7), NONE);
        // A closed run has no cost, though its next run has one; nor has it one as a target.
        x.signal(1, 0, 1, 0);
        due("cost of a closed run", x.cost(even(1, 0), 7), NONE);
        x.signal(1, 0, NONE, 0);
        x.signal(2, 0, 1, 0);
        due("cost of a closed target", x.cost(even(2, 0), 7), NONE);
        x.lift(2, 0);
        due("cost, the target lifted", x.cost(0, 7), NONE);
        due("cost of the lifted target", x.cost(odd(2, 0), 7), NONE);
    }

    private static void routeFromZero() {
        RouteTracks x = row(4);
        x.platform(3, 0, 0);
        due("route(0, 0, -1)", x.route(0, 0, -1), NONE);
        due("route(0, 0, 0)", x.route(0, 0, 0), even(1, 0));
        due("route(0, 0, 1)", x.route(0, 0, 1), even(2, 0));
        due("route(0, 0, 2)", x.route(0, 0, 2), even(3, 0));
        due("route(0, 0, 3)", x.route(0, 0, 3), NONE);
        due("route of one run alone", x.route(even(2, 0), 0, 0), even(3, 0));
        due("route of one run alone, one more", x.route(even(2, 0), 0, 1), NONE);
        for (int wild : WILD) {
            due("route(0, 0, " + wild + ")", x.route(0, 0, wild), NONE);
        }
    }

    private static void routeNone() {
        RouteTracks x = row(4);
        x.platform(3, 0, 7);
        for (int wild : WILD) {
            due("route(" + wild + ", 7, 0)", x.route(wild, 7, 0), NONE);
            due("route(0, " + wild + ", 0)", x.route(0, wild, 0), NONE);
            due("route(" + wild + ", " + wild + ", " + wild + ")", x.route(wild, wild, wild), NONE);
        }
        routeDue("of a target", x, even(3, 0), 7);
        routeDue("of the other target", x, odd(3, 0), 7);
        routeDue("of an endless run", x, odd(2, 0), 7);
        routeDue("to a station without pieces", x, 0, 6);
        routeDue("to station 8", x, 0, 8);
        routeDue("of one run too many", x, 12 * 80, 7);
        routeDue("of what is not there", x, even(4, 0), 7);
        // In a ring a target has no route either, though its next runs have costs.
        RouteTracks y = of(4, 4, 0, 3, 1, 0, 2, 4, 4, 2, 5, 0, 6, 5);
        y.platform(1, 0, 7);
        due("cost behind the target", y.cost(odd(2, 4), 7), 12 + 16 + 12 + 12 + 16);
        routeDue("of a target in a ring", y, even(1, 0), 7);
        y.signal(5, 0, 1, 0);
        routeDue("of a closed run", y, even(5, 0), 7);
        // The ring is cut for one way, and the other way's route ends at the signal.
        routeDue("up to the signal", y, odd(2, 4), 7, even(6, 5), odd(5, 0));
        routeDue("over the closed run", y, odd(0, 3), 7);
    }

    private static void counts() {
        RouteTracks x = fullOfFour();
        for (int tile = 0; tile < 16; tile++) {
            x.platform(tile, 0, tile % 8);
            x.platform(tile, 1, 7);
        }
        countsDue("of a full map, all straight pieces of stations", x, 96, 0, 32, 1);
        for (int piece = 0; piece < 96; piece++) {
            x.signal(piece / 6, piece % 6, piece & 1, piece >> 1 & 1);
        }
        countsDue("of a full map, all pieces with signals", x, 96, 96, 32, 1);
        for (int tile = 0; tile < 16; tile++) {
            x.lift(tile, 0);
            x.lift(tile, 1);
        }
        due("count(0), the straight ones lifted", x.count(0), 64);
        due("count(1), the straight ones lifted", x.count(1), 64);
        due("count(2), the straight ones lifted", x.count(2), 0);
        // As many blocks as pieces: none touches another.
        RouteTracks y = of(4, 4, 0, 2, 0, 4, 2, 3, 2, 5, 8, 0, 10, 1);
        countsDue("with each piece a block of its own", y, 6, 0, 0, 6);
        countsDue("of an empty map", new RouteTracks(20, 20), 0, 0, 0, 0);
    }

    private static void countOther() {
        RouteTracks x = fullOfFour();
        x.signal(0, 0, 0, 0);
        x.platform(0, 0, 0);
        for (int wild : WILD) {
            due("count(" + wild + ")", x.count(wild), NONE);
        }
        due("count(4)", x.count(4), NONE);
        due("count(3)", x.count(3), 1);
        due("count(0)", x.count(0), 96);
    }
}
