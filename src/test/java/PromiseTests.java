/** What each of the fourteen promises asks: ordinary inputs, the edges that the document names, wrong inputs. */
public final class PromiseTests {
    private static final int NONE = RouteTracks.NONE;
    private static final int MIN = Integer.MIN_VALUE;
    private static final int MAX = Integer.MAX_VALUE;
    private static final String INDEX = "IndexOutOfBoundsException";
    private static final String ARGUMENT = "IllegalArgumentException";
    private static final String NOTHING = "nothing";

    private static int wrong = 0;

    private interface Call {
        void make();
    }

    public static void main(String[] args) {
        promise1();
        promise2();
        promise3();
        promise4();
        promise5();
        promise6();
        promise7();
        promise8();
        promise9Meeting();
        promise9Lines();
        promise10();
        promise11();
        promise12();
        promise13();
        promise13Signals();
        promise13Ring();
        promise14();
        changesAreSeen();
        whatThrowsChangesNothing();
        System.out.println(wrong == 0 ? "all answers are as due" : wrong + " answers are not as due");
        if (wrong != 0) {
            System.exit(1);
        }
    }

    private static void due(String call, Object got, Object want) {
        if (!got.equals(want)) {
            wrong++;
            System.out.println(call + " answered " + got + ", due is " + want);
        }
    }

    /** The very class counts: an ArrayIndexOutOfBoundsException is the machine's, not the document's. */
    private static void throwsDue(String call, String want, Call made) {
        String got = NOTHING;
        try {
            made.make();
        } catch (RuntimeException e) {
            got = e.getClass().getSimpleName();
        }
        due(call + " throws", got, want);
    }

    private static int piece(int tile, int kind) {
        return 6 * tile + kind;
    }

    private static int even(int tile, int kind) {
        return 2 * piece(tile, kind);
    }

    private static int odd(int tile, int kind) {
        return 2 * piece(tile, kind) + 1;
    }

    private static RouteTracks of(int width, int height, int... tilesAndKinds) {
        RouteTracks x = new RouteTracks(width, height);
        for (int i = 0; i < tilesAndKinds.length; i += 2) {
            x.lay(tilesAndKinds[i], tilesAndKinds[i + 1]);
        }
        return x;
    }

    private static void promise1() {
        due("NONE", RouteTracks.NONE, -1);
        int[][] sizes = {
            {4, 4, 4, 4}, {3, 3, 4, 4}, {0, 5, 4, 5}, {-1, -7, 4, 4}, {MIN, MIN, 4, 4}, {5, 7, 5, 7}, {7, 5, 7, 5},
            {20, 20, 20, 20}, {21, 19, 20, 19}, {19, 21, 19, 20}, {MAX, MAX, 20, 20}, {MAX, MIN, 20, 4}
        };
        for (int[] size : sizes) {
            String made = "RouteTracks(" + size[0] + ", " + size[1] + ")";
            RouteTracks x = new RouteTracks(size[0], size[1]);
            int width = size[2];
            int tiles = size[2] * size[3];
            for (int what = 0; what < 4; what++) {
                due(made + " count(" + what + ")", x.count(what), 0);
            }
            due(made + " at(0, 0)", x.at(0, 0), 0);
            due(made + " at(last, 0)", x.at(tiles - 1, 0), 0);
            due(made + " at(last, 6)", x.at(tiles - 1, 6), 0);
            due(made + " at(last + 1, 0)", x.at(tiles, 0), NONE);
            throwsDue(made + " lay(last + 1, 0)", INDEX, () -> x.lay(tiles, 0));
            throwsDue(made + " lay(last, 1)", NOTHING, () -> x.lay(tiles - 1, 1));
            throwsDue(made + " lay(last - width, 1)", NOTHING, () -> x.lay(tiles - 1 - width, 1));
            due(made + " next, over the width", x.next(even(tiles - 1 - width, 1), 0), even(tiles - 1, 1));
        }
    }

    private static void promise2() {
        RouteTracks x = new RouteTracks(5, 4);
        for (int kind = 0; kind < 6; kind++) {
            int laid = kind;
            throwsDue("lay(7, " + kind + ")", NOTHING, () -> x.lay(7, laid));
            due("at(7, 0) with kinds up to " + kind, x.at(7, 0), (2 << kind) - 1);
            due("count(0)", x.count(0), kind + 1);
            throwsDue("lay(7, " + kind + ") again", ARGUMENT, () -> x.lay(7, laid));
        }
        throwsDue("lay(0, 0)", NOTHING, () -> x.lay(0, 0));
        throwsDue("lay(19, 5)", NOTHING, () -> x.lay(19, 5));
        int[][] places = {{20, 0}, {-1, 0}, {MIN, 0}, {MAX, 0}, {7, 6}, {7, -1}, {7, MIN}, {7, MAX}, {6, 6}, {20, 6}};
        for (int[] place : places) {
            throwsDue("lay(" + place[0] + ", " + place[1] + ")", INDEX, () -> x.lay(place[0], place[1]));
        }
        due("count(0)", x.count(0), 8);
        due("at(6, 0)", x.at(6, 0), 0);
        due("at(8, 0)", x.at(8, 0), 0);
    }

    private static void promise3() {
        RouteTracks x = of(4, 5, 9, 0, 9, 1, 10, 0);
        x.signal(9, 0, 1, 1);
        x.platform(9, 0, 6);
        due("count(1)", x.count(1), 1);
        throwsDue("lift(9, 0)", NOTHING, () -> x.lift(9, 0));
        due("at(9, 0) lifted", x.at(9, 0), 2);
        due("at(9, 1) lifted", x.at(9, 1), 0);
        due("count(0) lifted", x.count(0), 2);
        due("count(1) lifted", x.count(1), 0);
        due("count(2) lifted", x.count(2), 0);
        due("sign(6) lifted", x.sign(6), NONE);
        throwsDue("lift(9, 0) again", ARGUMENT, () -> x.lift(9, 0));
        throwsDue("lift(11, 3), never laid", ARGUMENT, () -> x.lift(11, 3));
        int[][] places = {{20, 0}, {-1, 0}, {MIN, 0}, {MAX, 0}, {9, 6}, {9, -1}, {9, MAX}, {9, MIN}, {20, -1}};
        for (int[] place : places) {
            throwsDue("lift(" + place[0] + ", " + place[1] + ")", INDEX, () -> x.lift(place[0], place[1]));
        }
        x.lay(9, 0);
        due("at(9, 1) laid anew", x.at(9, 1), 1);
        due("next(even 9, 0) laid anew", x.next(even(9, 0), 0), even(10, 0));
        due("next(odd 10, 0) laid anew", x.next(odd(10, 0), 0), odd(9, 0));
        due("sign(6) laid anew", x.sign(6), NONE);
    }

    private static void promise4() {
        for (int kind = 0; kind < 6; kind++) {
            RouteTracks x = of(4, 4, 5, kind);
            int laid = kind;
            int[][] ways = {{0, 0, 1}, {1, 0, 2}, {0, 1, 3}, {1, 1, 4}, {1, 0, 2}, {NONE, 0, 0}, {1, 1, 4}, {NONE, 1, 0}};
            for (int[] way : ways) {
                String call = "signal(5, " + kind + ", " + way[0] + ", " + way[1] + ")";
                throwsDue(call, NOTHING, () -> x.signal(5, laid, way[0], way[1]));
                due(call + " at", x.at(5, kind + 1), 1 + 4 * way[2]);
                due(call + " count(1)", x.count(1), way[2] == 0 ? 0 : 1);
            }
            throwsDue("signal(.., NONE, 0) where none is", NOTHING, () -> x.signal(5, laid, NONE, 0));
            x.signal(5, kind, 1, 0);
            int[][] bad = {
                {2, 0}, {-2, 0}, {MAX, 0}, {MIN, 0}, {0, 2}, {0, -1}, {0, MAX}, {0, MIN}, {NONE, 2}, {NONE, -1}, {2, 2}
            };
            for (int[] way : bad) {
                String call = "signal(5, " + kind + ", " + way[0] + ", " + way[1] + ")";
                throwsDue(call, ARGUMENT, () -> x.signal(5, laid, way[0], way[1]));
                due(call + " at", x.at(5, kind + 1), 9);
            }
        }
        RouteTracks x = of(4, 4, 5, 0);
        throwsDue("signal(5, 1, 0, 0), not there", ARGUMENT, () -> x.signal(5, 1, 0, 0));
        throwsDue("signal(5, 1, NONE, 0), not there", ARGUMENT, () -> x.signal(5, 1, NONE, 0));
        int[][] places = {{16, 0}, {-1, 0}, {MIN, 0}, {MAX, 0}, {5, 6}, {5, -1}, {5, MAX}, {5, MIN}};
        for (int[] place : places) {
            String call = "signal(" + place[0] + ", " + place[1] + ", ..";
            throwsDue(call + "0, 0)", INDEX, () -> x.signal(place[0], place[1], 0, 0));
            throwsDue(call + "2, 2)", INDEX, () -> x.signal(place[0], place[1], 2, 2));
        }
        x.platform(5, 0, 2);
        x.signal(5, 0, 1, 1);
        due("a signal leaves the station", x.at(5, 1), 1 + 4 * 4 + 32 * 3);
        x.signal(5, 0, NONE, 1);
        due("no signal leaves the station", x.at(5, 1), 1 + 32 * 3);
        due("a signal leaves the other pieces", x.at(5, 2), 0);
    }

    private static void promise5() {
        RouteTracks x = of(4, 4, 6, 0, 6, 1, 6, 2, 6, 3, 6, 4, 6, 5);
        for (int station = 0; station < 8; station++) {
            int given = station;
            throwsDue("platform(6, 0, " + station + ")", NOTHING, () -> x.platform(6, 0, given));
            due("at(6, 1)", x.at(6, 1), 1 + 32 * (station + 1));
            throwsDue("platform(6, 1, " + station + ")", NOTHING, () -> x.platform(6, 1, given));
            due("at(6, 2)", x.at(6, 2), 1 + 32 * (station + 1));
        }
        for (int station : new int[] {8, -2, MAX, MIN}) {
            throwsDue("platform(6, 0, " + station + ")", INDEX, () -> x.platform(6, 0, station));
            throwsDue("platform(6, 2, " + station + "), a curve", INDEX, () -> x.platform(6, 2, station));
            throwsDue("platform(7, 0, " + station + "), not there", INDEX, () -> x.platform(7, 0, station));
        }
        for (int kind = 2; kind < 6; kind++) {
            int curve = kind;
            throwsDue("platform(6, " + kind + ", 0)", ARGUMENT, () -> x.platform(6, curve, 0));
            throwsDue("platform(6, " + kind + ", NONE)", ARGUMENT, () -> x.platform(6, curve, NONE));
            throwsDue("platform(7, " + kind + ", 0)", ARGUMENT, () -> x.platform(7, curve, 0));
            due("at(6, " + (kind + 1) + ")", x.at(6, kind + 1), 1);
        }
        throwsDue("platform(7, 0, 0), not there", ARGUMENT, () -> x.platform(7, 0, 0));
        throwsDue("platform(7, 1, NONE), not there", ARGUMENT, () -> x.platform(7, 1, NONE));
        int[][] places = {{16, 0}, {-1, 0}, {MIN, 0}, {MAX, 0}, {6, 6}, {6, -1}, {6, MAX}, {6, MIN}};
        for (int[] place : places) {
            throwsDue("platform(" + place[0] + ", " + place[1] + ", 0)", INDEX, () -> x.platform(place[0], place[1], 0));
        }
        x.signal(6, 1, 0, 1);
        x.platform(6, 1, 5);
        due("a station leaves the signal", x.at(6, 2), 1 + 4 * 3 + 32 * 6);
        throwsDue("platform(6, 1, NONE)", NOTHING, () -> x.platform(6, 1, NONE));
        due("no station leaves the signal", x.at(6, 2), 1 + 4 * 3);
        throwsDue("platform(6, 1, NONE) again", NOTHING, () -> x.platform(6, 1, NONE));
        due("the other piece keeps its station", x.at(6, 1), 1 + 32 * 8);
    }

    private static void promise6() {
        RouteTracks x = of(4, 4, 15, 0, 15, 3, 15, 5, 0, 1);
        x.signal(15, 0, 1, 1);
        x.platform(15, 0, 7);
        x.signal(15, 3, 0, 1);
        x.signal(15, 5, 1, 0);
        x.platform(0, 1, 0);
        int[] due = {41, 273, 0, 0, 13, 0, 9};
        for (int what = 0; what <= 6; what++) {
            due("at(15, " + what + ")", x.at(15, what), due[what]);
        }
        due("at(0, 0)", x.at(0, 0), 2);
        due("at(0, 2)", x.at(0, 2), 33);
        due("at(1, 0)", x.at(1, 0), 0);
        for (int what : new int[] {7, -1, MAX, MIN}) {
            due("at(15, " + what + ")", x.at(15, what), NONE);
            due("at(0, " + what + ")", x.at(0, what), NONE);
            due("at(16, " + what + ")", x.at(16, what), NONE);
        }
        for (int tile : new int[] {16, -1, MAX, MIN}) {
            due("at(" + tile + ", 0)", x.at(tile, 0), NONE);
            due("at(" + tile + ", 1)", x.at(tile, 1), NONE);
        }
    }

    /** All kinds round tile 12 of a map of 5 times 5 and in it: 7 north, 13 east, 17 south, 11 west of it. */
    private static RouteTracks cross() {
        RouteTracks x = new RouteTracks(5, 5);
        for (int tile : new int[] {7, 11, 12, 13, 17}) {
            for (int kind = 5; kind >= 0; kind--) {
                x.lay(tile, kind);
            }
        }
        return x;
    }

    private static void nextDue(RouteTracks x, int run, int... runs) {
        for (int k = 0; k < 4; k++) {
            due("next(" + run + ", " + k + ")", x.next(run, k), k < runs.length ? runs[k] : NONE);
        }
        due("next(" + run + ", -1)", x.next(run, -1), NONE);
        due("next(" + run + ", MIN)", x.next(run, MIN), NONE);
        due("next(" + run + ", MAX)", x.next(run, MAX), NONE);
    }

    private static void promise7() {
        RouteTracks x = cross();
        int[] toEast = {even(13, 0), odd(13, 4), odd(13, 5)};
        int[] toWest = {odd(11, 0), odd(11, 2), odd(11, 3)};
        int[] toNorth = {odd(7, 1), even(7, 3), even(7, 4)};
        int[] toSouth = {even(17, 1), even(17, 2), even(17, 5)};
        int[][] after = {
            toEast, toWest, toSouth, toNorth, toEast, toNorth, toEast, toSouth, toWest, toSouth, toWest, toNorth
        };
        for (int i = 0; i < 12; i++) {
            nextDue(x, 12 * 12 + i, after[i]);
        }
        x.signal(13, 4, 0, 0);
        nextDue(x, even(12, 0), even(13, 0), odd(13, 5));
        x.signal(13, 4, 1, 1);
        nextDue(x, even(12, 0), toEast);
        x.signal(12, 0, 1, 0);
        nextDue(x, even(12, 0));
        nextDue(x, odd(12, 0), toWest);
        x.lift(12, 0);
        nextDue(x, even(12, 0));
        nextDue(x, odd(12, 0));
        for (int run : new int[] {-1, MIN, 300, MAX}) {
            nextDue(x, run);
        }
        promise7Border();
    }

    private static void promise7Border() {
        RouteTracks x = of(4, 4, 3, 0, 4, 0, 1, 1, 13, 1, 15, 3, 15, 0, 0, 5, 0, 0);
        nextDue(x, even(3, 0));
        nextDue(x, odd(4, 0));
        nextDue(x, odd(1, 1));
        nextDue(x, even(13, 1));
        nextDue(x, even(15, 3));
        nextDue(x, odd(15, 3));
        nextDue(x, even(15, 0));
        nextDue(x, even(0, 5));
        nextDue(x, odd(0, 5));
        nextDue(x, odd(0, 0));
    }

    private static void promise8() {
        RouteTracks x = cross();
        int fromWest = even(11, 0);
        int fromEast = odd(13, 0);
        int fromNorth = even(7, 1);
        int fromSouth = odd(17, 1);
        int[] beforeThem = {
            fromWest, fromEast, fromNorth, fromSouth, fromNorth, fromEast,
            fromSouth, fromEast, fromSouth, fromWest, fromNorth, fromWest
        };
        for (int i = 0; i < 12; i++) {
            due("before(" + (144 + i) + ")", x.before(144 + i), beforeThem[i]);
        }
        x.signal(11, 0, 1, 0);
        due("before, with one closed", x.before(even(12, 0)), even(11, 2));
        x.lift(11, 2);
        due("before, with one lifted", x.before(even(12, 0)), even(11, 3));
        x.signal(11, 3, 1, 1);
        due("before, with none left", x.before(even(12, 0)), NONE);
        x.signal(11, 3, 0, 1);
        due("before, with an open signal", x.before(even(12, 0)), even(11, 3));
        x.signal(12, 0, 1, 0);
        due("before of a closed run", x.before(even(12, 0)), NONE);
        due("before of its reverse", x.before(odd(12, 0)), fromEast);
        x.lift(12, 0);
        due("before of a lifted run", x.before(odd(12, 0)), NONE);
        for (int run : new int[] {-1, -2, MIN, 300, MAX}) {
            due("before(" + run + ")", x.before(run), NONE);
        }
        RouteTracks y = of(4, 4, 3, 0, 4, 0, 0, 1, 12, 1);
        due("before at the west border", y.before(even(4, 0)), NONE);
        due("before at the east border", y.before(odd(3, 0)), NONE);
        due("before at the north border", y.before(even(0, 1)), NONE);
        due("before at the south border", y.before(odd(12, 1)), NONE);
    }

    private static void promise9Meeting() {
        for (int one = 0; one < 6; one++) {
            for (int other = one + 1; other < 6; other++) {
                RouteTracks x = of(4, 4, 5, one, 5, other);
                boolean apart = one == 2 && other == 4 || one == 3 && other == 5;
                String call = "with " + one + " and " + other + " ";
                due(call + "block(5, one)", x.block(5, one), piece(5, one));
                due(call + "block(5, other)", x.block(5, other), piece(5, apart ? other : one));
                due(call + "count(3)", x.count(3), apart ? 2 : 1);
            }
        }
        RouteTracks x = of(4, 4, 5, 2, 5, 4);
        x.signal(5, 2, 0, 0);
        x.lay(5, 0);
        due("2 and 4 by way of 0, signals or not", x.block(5, 4), piece(5, 0));
        for (int kind : new int[] {1, 3, 5, 6, -1, MAX, MIN}) {
            due("block(5, " + kind + ")", x.block(5, kind), NONE);
        }
        for (int tile : new int[] {-1, 16, MAX, MIN, 4}) {
            due("block(" + tile + ", 0)", x.block(tile, 0), NONE);
        }
        x.lift(5, 0);
        due("block(5, 0) lifted", x.block(5, 0), NONE);
        due("block(5, 4) with 0 lifted", x.block(5, 4), piece(5, 4));
    }

    private static void promise9Lines() {
        RouteTracks x = of(4, 4, 4, 0, 5, 0, 6, 0, 3, 0, 1, 1, 9, 0);
        due("a line", x.block(6, 0), piece(4, 0));
        due("no line round the border", x.block(4, 0), piece(4, 0));
        due("a tile above, ending elsewhere", x.block(1, 1), piece(1, 1));
        due("a tile below, ending elsewhere", x.block(9, 0), piece(9, 0));
        for (int sort = 0; sort < 2; sort++) {
            x.signal(5, 0, 0, sort);
            due("a signal to the east parts the east", x.block(6, 0), piece(6, 0));
            due("a signal to the east leaves the west", x.block(5, 0), piece(4, 0));
            x.signal(5, 0, 1, sort);
            due("a signal to the west leaves the east", x.block(6, 0), piece(5, 0));
            due("a signal to the west parts the west", x.block(4, 0), piece(4, 0));
            x.signal(6, 0, 1, sort);
            due("signals of both sides' west part both", x.block(6, 0), piece(6, 0));
            due("and leave each for itself", x.block(5, 0), piece(5, 0));
            due("count(3)", x.count(3), 6);
            x.signal(5, 0, NONE, sort);
            x.signal(6, 0, NONE, sort);
            due("no signal", x.block(6, 0), piece(4, 0));
        }
        RouteTracks y = of(4, 4, 5, 2, 1, 4, 6, 0, 2, 3);
        due("curves over a line", y.block(6, 0), piece(1, 4));
        due("curves that end at other lines", y.block(2, 3), piece(2, 3));
        y.lay(6, 3);
        due("a curve more that ends elsewhere", y.block(2, 3), piece(2, 3));
        y.lay(6, 5);
        due("a curve between two", y.block(2, 3), piece(1, 4));
        y.signal(1, 4, 0, 0);
        due("a signal away from the line", y.block(5, 2), piece(1, 4));
        y.signal(1, 4, 1, 1);
        due("a signal to the line, its own piece", y.block(1, 4), piece(1, 4));
        due("a signal to the line, the others", y.block(5, 2), piece(2, 3));
    }

    private static void promise10() {
        RouteTracks x = of(4, 4, 14, 0, 3, 1, 9, 0, 9, 1);
        for (int station = -1; station <= 8; station++) {
            due("sign(" + station + ")", x.sign(station), NONE);
        }
        x.platform(14, 0, 7);
        due("sign(7), one piece", x.sign(7), 14);
        x.platform(9, 1, 7);
        due("sign(7), two pieces", x.sign(7), 9);
        x.platform(9, 0, 0);
        x.platform(3, 1, 0);
        due("sign(0)", x.sign(0), 3);
        due("sign(7) still", x.sign(7), 9);
        x.platform(3, 1, 7);
        due("sign(7), taken over", x.sign(7), 3);
        due("sign(0), taken from", x.sign(0), 9);
        x.platform(3, 1, NONE);
        due("sign(7), one less", x.sign(7), 9);
        x.lift(9, 1);
        due("sign(7), one lifted", x.sign(7), 14);
        x.lay(0, 0);
        x.platform(0, 0, 3);
        due("sign(3), tile 0", x.sign(3), 0);
        for (int station : new int[] {-1, -2, 8, MAX, MIN}) {
            due("sign(" + station + ")", x.sign(station), NONE);
        }
    }

    private static void targetsDue(RouteTracks x, int station, int... targets) {
        for (int run = 0; run < 4 * 4 * 12; run++) {
            boolean want = false;
            for (int target : targets) {
                want |= run == target;
            }
            due("isTarget(" + run + ", " + station + ")", x.isTarget(run, station), want);
        }
    }

    private static void promise11() {
        RouteTracks x = of(4, 4, 4, 0, 5, 0, 6, 0, 7, 0);
        x.platform(5, 0, 2);
        x.platform(6, 0, 2);
        targetsDue(x, 2, odd(5, 0), even(6, 0));
        targetsDue(x, 3);
        RouteTracks y = of(4, 4, 4, 0, 5, 0, 6, 0, 6, 4);
        y.platform(5, 0, 2);
        y.platform(6, 0, 3);
        y.platform(4, 0, 2);
        targetsDue(y, 2, even(5, 0), odd(4, 0));
        y.platform(6, 0, 2);
        due("isTarget where one of several next runs is of it", y.isTarget(even(5, 0), 2), false);
        y.signal(6, 0, 1, 0);
        due("isTarget where the next one of it is closed", y.isTarget(even(5, 0), 2), true);
        due("isTarget of the closed run", y.isTarget(even(6, 0), 2), false);
        due("isTarget of the signal's run", y.isTarget(odd(6, 0), 2), false);
        y.signal(5, 0, 0, 1);
        due("isTarget before a closed run", y.isTarget(odd(6, 0), 2), true);
        due("isTarget of a run that is closed now", y.isTarget(odd(5, 0), 2), false);
        for (int station : new int[] {-1, 8, 3, MAX, MIN}) {
            due("isTarget(.., " + station + ")", y.isTarget(even(5, 0), station), false);
            due("isTarget of no station's run, " + station, y.isTarget(even(6, 4), station), false);
            due("isTarget of no piece's run, " + station, y.isTarget(even(0, 0), station), false);
        }
        for (int run : new int[] {-1, -2, 192, MAX, MIN}) {
            due("isTarget(" + run + ", 2)", y.isTarget(run, 2), false);
        }
        y.lift(5, 0);
        due("isTarget, lifted", y.isTarget(even(5, 0), 2), false);
    }

    private static void promise12() {
        RouteTracks x = of(4, 4, 0, 3, 1, 0, 2, 4, 4, 1, 6, 1, 8, 2, 9, 0, 10, 5);
        x.platform(9, 0, 4);
        int[] eastward = {even(0, 3), even(1, 0), odd(2, 4), even(6, 1), even(10, 5), odd(9, 0)};
        int[] costs = {72, 56, 44, 28, 16, 0};
        for (int i = 0; i < eastward.length; i++) {
            due("cost(" + eastward[i] + ", 4) along a ring", x.cost(eastward[i], 4), costs[i]);
        }
        due("cost the other way", x.cost(odd(0, 3), 4), 44);
        due("cost of the other target", x.cost(even(9, 0), 4), 0);
        due("cost of a run from the target on", x.cost(odd(8, 2), 4), 100);
        x.signal(6, 1, 1, 0);
        due("cost over a closed run", x.cost(even(0, 3), 4), NONE);
        due("cost of a closed run", x.cost(even(6, 1), 4), NONE);
        due("cost behind the closed run", x.cost(even(10, 5), 4), 16);
        due("cost the way of the signal", x.cost(odd(10, 5), 4), 100);
        for (int station : new int[] {-1, 8, 3, MAX, MIN}) {
            due("cost(.., " + station + ")", x.cost(odd(9, 0), station), NONE);
        }
        for (int run : new int[] {-1, -2, 192, MAX, MIN, even(5, 0), odd(9, 1)}) {
            due("cost(" + run + ", 4)", x.cost(run, 4), NONE);
        }
        promise12Least();
    }

    private static void promise12Least() {
        // From tile 4 straight on to tile 7 is far shorter than by the row below, which is laid as well.
        RouteTracks x = of(4, 4, 4, 0, 5, 0, 6, 0, 7, 0, 5, 4, 9, 2, 10, 5, 6, 3);
        x.platform(7, 0, 1);
        due("cost of the shorter of two", x.cost(even(4, 0), 1), 48);
        x.signal(6, 0, 1, 1);
        due("cost of the only one left", x.cost(even(4, 0), 1), 64);
        x.platform(6, 0, 1);
        due("cost, once the closed run's piece is of it", x.cost(even(4, 0), 1), 64);
        due("cost of a target", x.cost(even(7, 0), 1), 0);
        due("cost of a run of it that is none", x.cost(odd(7, 0), 1), 16);
        // Two ends of one station: the nearer one counts.
        RouteTracks y = of(4, 4, 0, 0, 1, 0, 2, 0, 3, 0, 2, 4, 6, 1);
        y.platform(3, 0, 0);
        y.platform(6, 1, 0);
        due("cost of the nearer target", y.cost(even(0, 0), 0), 44);
        y.lift(6, 1);
        due("cost of the target that is left", y.cost(even(0, 0), 0), 48);
        y.platform(1, 0, 0);
        due("cost of a target on the way", y.cost(even(0, 0), 0), 16);
        y.platform(2, 0, 0);
        due("cost through a station of three", y.cost(even(0, 0), 0), 48);
    }

    private static void routeDue(RouteTracks x, int run, int station, int... runs) {
        for (int k = 0; k < runs.length + 3; k++) {
            due("route(" + run + ", " + station + ", " + k + ")", x.route(run, station, k), k < runs.length ? runs[k] : NONE);
        }
        due("route(" + run + ", " + station + ", -1)", x.route(run, station, -1), NONE);
        due("route(" + run + ", " + station + ", MIN)", x.route(run, station, MIN), NONE);
        due("route(" + run + ", " + station + ", MAX)", x.route(run, station, MAX), NONE);
    }

    private static void promise13() {
        RouteTracks x = of(4, 4, 4, 0, 5, 0, 6, 0, 7, 0, 5, 4, 9, 2, 10, 5, 6, 3);
        x.platform(7, 0, 1);
        routeDue(x, even(4, 0), 1, even(5, 0), even(6, 0), even(7, 0));
        routeDue(x, even(6, 0), 1, even(7, 0));
        routeDue(x, even(7, 0), 1);
        routeDue(x, odd(6, 0), 1);
        routeDue(x, even(4, 0), 2);
        routeDue(x, even(4, 0), 8);
        routeDue(x, even(4, 0), NONE);
        routeDue(x, even(3, 0), 1);
        routeDue(x, 192, 1);
        routeDue(x, -1, 1);
        routeDue(x, MIN, MIN);
        routeDue(x, MAX, MAX);
        x.signal(5, 0, 1, 0);
        routeDue(x, even(5, 0), 1);
        routeDue(x, even(4, 0), 1, odd(5, 4), even(9, 2), odd(10, 5), even(6, 3), even(7, 0));
        // Two ways of the same cost, by north and by south: the kind that comes first goes south.
        RouteTracks y = of(4, 4, 4, 0, 5, 5, 1, 3, 2, 4, 6, 2, 5, 4, 9, 2, 10, 5, 6, 3, 7, 0);
        y.platform(7, 0, 0);
        due("cost of two ways alike", y.cost(even(4, 0), 0), 64);
        routeDue(y, even(4, 0), 0, odd(5, 4), even(9, 2), odd(10, 5), even(6, 3), even(7, 0));
        y.lift(10, 5);
        routeDue(y, even(4, 0), 0, odd(5, 5), even(1, 3), odd(2, 4), even(6, 2), even(7, 0));
    }

    private static void promise13Signals() {
        RouteTracks x = of(6, 4, 0, 0, 1, 0, 2, 0, 3, 0, 4, 0, 5, 0);
        x.platform(4, 0, 5);
        x.platform(5, 0, 5);
        routeDue(x, even(0, 0), 5, even(1, 0), even(2, 0), even(3, 0), even(4, 0), even(5, 0));
        x.signal(2, 0, 0, 0);
        routeDue(x, even(0, 0), 5, even(1, 0), even(2, 0));
        due("cost is to the target all the same", x.cost(even(0, 0), 5), 80);
        routeDue(x, even(2, 0), 5, even(3, 0), even(4, 0), even(5, 0));
        x.signal(2, 0, 0, 1);
        routeDue(x, even(0, 0), 5, even(1, 0), even(2, 0));
        x.signal(1, 0, 0, 1);
        routeDue(x, even(0, 0), 5, even(1, 0));
        routeDue(x, even(1, 0), 5, even(2, 0));
        x.signal(5, 0, 0, 0);
        routeDue(x, even(2, 0), 5, even(3, 0), even(4, 0), even(5, 0));
        routeDue(x, even(5, 0), 5);
        routeDue(x, odd(5, 0), 5);
        // A target of another station does not end it.
        x.platform(3, 0, 1);
        routeDue(x, even(2, 0), 5, even(3, 0), even(4, 0), even(5, 0));
        routeDue(x, even(2, 0), 1, even(3, 0));
    }

    private static void promise13Ring() {
        RouteTracks x = of(4, 4, 0, 3, 1, 0, 2, 4, 4, 1, 6, 1, 8, 2, 9, 0, 10, 5);
        x.platform(9, 0, 4);
        routeDue(x, even(0, 3), 4, even(1, 0), odd(2, 4), even(6, 1), even(10, 5), odd(9, 0));
        routeDue(x, odd(8, 2), 4, odd(4, 1), even(0, 3), even(1, 0), odd(2, 4), even(6, 1), even(10, 5), odd(9, 0));
        // A target has no route, though it could go round the ring.
        routeDue(x, odd(9, 0), 4);
        routeDue(x, even(9, 0), 4);
        // Costs alike behind a straight next run and behind a curve: the curve is the shorter.
        RouteTracks y = of(4, 4, 4, 0, 5, 0, 6, 0, 5, 4, 9, 1);
        y.platform(6, 0, 2);
        y.platform(9, 1, 2);
        due("cost over the curve", y.cost(even(4, 0), 2), 28);
        routeDue(y, even(4, 0), 2, odd(5, 4), even(9, 1));
        // 16 and 28 behind it, or 12 and 32: of these the first.
        RouteTracks z = of(4, 4, 4, 0, 5, 0, 6, 4, 10, 1, 5, 4, 9, 1, 13, 1);
        z.platform(10, 1, 0);
        z.platform(13, 1, 0);
        due("cost over either", z.cost(even(4, 0), 0), 44);
        routeDue(z, even(4, 0), 0, even(5, 0), odd(6, 4), even(10, 1));
    }

    private static void countsDue(RouteTracks x, int... counts) {
        for (int what = 0; what < 4; what++) {
            due("count(" + what + ")", x.count(what), counts[what]);
        }
    }

    private static void promise14() {
        RouteTracks x = of(4, 4, 0, 0, 1, 0, 2, 0, 9, 2, 9, 4, 15, 1);
        countsDue(x, 6, 0, 0, 4);
        x.signal(1, 0, 0, 0);
        countsDue(x, 6, 1, 0, 5);
        x.signal(1, 0, 1, 1);
        countsDue(x, 6, 1, 0, 5);
        x.signal(9, 2, 1, 1);
        countsDue(x, 6, 2, 0, 5);
        x.platform(0, 0, 0);
        x.platform(15, 1, 7);
        countsDue(x, 6, 2, 2, 5);
        x.platform(15, 1, 0);
        countsDue(x, 6, 2, 2, 5);
        x.signal(1, 0, NONE, 0);
        x.platform(0, 0, NONE);
        countsDue(x, 6, 1, 1, 4);
        x.lift(1, 0);
        countsDue(x, 5, 1, 1, 5);
        x.lay(9, 1);
        countsDue(x, 6, 1, 1, 4);
        for (int what : new int[] {-1, 4, MAX, MIN}) {
            due("count(" + what + ")", x.count(what), NONE);
        }
    }

    /** Each change comes between two like questions, of costs and of blocks by turns. */
    private static void changesAreSeen() {
        RouteTracks x = of(4, 4, 0, 0, 1, 0, 3, 0);
        x.platform(3, 0, 0);
        due("cost, a gap between", x.cost(even(0, 0), 0), NONE);
        x.lay(2, 0);
        due("cost, the gap laid", x.cost(even(0, 0), 0), 48);
        due("block, the gap laid", x.block(3, 0), piece(0, 0));
        due("cost, asked again", x.cost(even(0, 0), 0), 48);
        due("cost to another station", x.cost(even(0, 0), 1), NONE);
        due("cost to the first once more", x.cost(even(0, 0), 0), 48);
        due("block, asked again", x.block(3, 0), piece(0, 0));
        due("cost after it", x.cost(even(0, 0), 0), 48);
        due("block after that", x.block(2, 0), piece(0, 0));
        x.platform(1, 0, 0);
        due("cost, a nearer station", x.cost(even(0, 0), 0), 16);
        x.signal(1, 0, 1, 0);
        due("cost, that one closed", x.cost(even(0, 0), 0), NONE);
        due("count(3), parted", x.count(3), 2);
        x.signal(1, 0, NONE, 0);
        due("count(3), whole again", x.count(3), 1);
        due("cost, open again", x.cost(even(0, 0), 0), 16);
        x.lift(1, 0);
        due("cost, lifted", x.cost(even(0, 0), 0), NONE);
        due("count(3), lifted", x.count(3), 2);
        x.lay(1, 0);
        due("count(3), laid again", x.count(3), 1);
        due("cost, laid again without a station", x.cost(even(0, 0), 0), 48);
    }

    private static void whatThrowsChangesNothing() {
        RouteTracks x = of(4, 4, 5, 0, 6, 0, 6, 3);
        x.signal(5, 0, 0, 1);
        x.platform(5, 0, 3);
        throwsDue("lay(5, 0)", ARGUMENT, () -> x.lay(5, 0));
        throwsDue("lay(5, 6)", INDEX, () -> x.lay(5, 6));
        throwsDue("lift(5, 1)", ARGUMENT, () -> x.lift(5, 1));
        throwsDue("signal(5, 0, NONE, 2)", ARGUMENT, () -> x.signal(5, 0, NONE, 2));
        throwsDue("signal(5, 0, 1, 2)", ARGUMENT, () -> x.signal(5, 0, 1, 2));
        throwsDue("signal(5, 0, 2, 0)", ARGUMENT, () -> x.signal(5, 0, 2, 0));
        throwsDue("signal(5, 1, 0, 0)", ARGUMENT, () -> x.signal(5, 1, 0, 0));
        throwsDue("platform(5, 0, 8)", INDEX, () -> x.platform(5, 0, 8));
        throwsDue("platform(5, 0, -2)", INDEX, () -> x.platform(5, 0, -2));
        throwsDue("platform(6, 3, 1)", ARGUMENT, () -> x.platform(6, 3, 1));
        throwsDue("platform(5, 1, 1)", ARGUMENT, () -> x.platform(5, 1, 1));
        due("at(5, 0)", x.at(5, 0), 1);
        due("at(5, 1)", x.at(5, 1), 1 + 4 * 3 + 32 * 4);
        due("at(6, 0)", x.at(6, 0), 9);
        due("at(6, 4)", x.at(6, 4), 1);
        countsDue(x, 3, 1, 1, 2);
    }
}
