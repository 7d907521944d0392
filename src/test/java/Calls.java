import java.util.ArrayList;
import java.util.List;
import java.util.function.ToLongFunction;

/** Calls that are answered, and calls that are refused, by the objects on which they are made. */
final class Calls {
    private static final int[] FAR_OFF = {Integer.MIN_VALUE, Integer.MAX_VALUE};
    private static final List<Call> ANSWERED = new ArrayList<>();
    private static final List<Call> REFUSED = new ArrayList<>();

    private Calls() {
    }

    /** Objects; each that is made of one State is like all others of it. */
    enum State {
        /** No MATCH, but a TAPE. */
        FRESH,
        /** Four players, two blocks, three sites (the second of right), two prints, two guesses; two TENTHS, two MARKS. */
        MIDDLE,
        /** The same, played out. */
        ENDED,
        /** The same with four MARKS and fourteen acts SEEN. */
        FULL,
        /** A MATCH of one player. */
        BARE;

        SnowWalls make() {
            SnowWalls x = new SnowWalls();
            if (this == BARE) {
                Check.match(x, "law carry 9 line 0 tenths 1 thaws 0;snow 0 wet 0 deep 0;player p of left at 0,0 arm 0 dodge 0 balls 0");
            } else if (this != FRESH) {
                begin(x);
            }
            if (this == ENDED) {
                x.finish();
            }
            if (this == FULL) {
                x.mark();
                x.tenth();
                x.mark();
                for (int i = 2; i < 14; i++) {
                    x.see(i % 3);
                }
            }
            Check.feed(x, "snow 1 wet 1 deep 24");
            return x;
        }

        private static void begin(SnowWalls x) {
            Check.match(x, Lines.law(3, 8, 9, 2) + Lines.snow(5, 5, 2) + Lines.snow(6, 8, 3) + Lines.referee(4, 5)
                + Lines.left("a", 1, 5, 4, 2, 3) + Lines.left("b", 2, 6, 3, 3, 2) + Lines.right("c", 1, 12, 5, 1, 4)
                + Lines.right("d", 2, 14, 6, 2, 1) + Lines.block("v", "left", 2, 7, 4) + Lines.block("w", "right", 1, 11, 5)
                + Lines.site("s", "left", 1, 6, 5) + Lines.site("t", "right", 2, 9, 7) + Lines.site("u", "left", 2, 8, 2)
                + Lines.print("left", 1, 6) + Lines.print("right", 2, 13) + Lines.guess("g", 5, 6, 2) + Lines.guess("h", 9, 1, 1)
                + Lines.at(0, "a flat c") + Lines.at(0, "b goes") + Lines.at(1, "c high b") + Lines.at(1, "d ducks")
                + Lines.at(2, "a flat d") + Lines.at(2, "c flat a") + Lines.at(3, "b makes") + "at 5 d goes");
            x.start(7);
            x.hour(6);
            x.tenth();
            x.mark();
            x.tenth();
            x.hour(5);
            x.mark();
            x.see(0);
            x.see(2);
        }
    }

    /** A call, by the promise that tells of it. */
    static final class Call {
        final String promise;
        final String name;
        final State state;
        final ToLongFunction<SnowWalls> how;
        final long answer;
        final int trouble;

        Call(String promise, String name, State state, ToLongFunction<SnowWalls> how, long answer, int trouble) {
            this.promise = promise;
            this.name = name + " of " + state;
            this.state = state;
            this.how = how;
            this.answer = answer;
            this.trouble = trouble;
        }

        long made(SnowWalls walls) {
            return how.applyAsLong(walls);
        }
    }

    private static long of(boolean yes) {
        return yes ? 1 : 0;
    }

    /** Of each promise that tells a number of TROUBLE a call that isn't refused. */
    static List<Call> answered() {
        return ANSWERED;
    }

    private static void answers(String promise, String name, State state, ToLongFunction<SnowWalls> how) {
        ANSWERED.add(new Call(promise, name, state, how, 0, 0));
    }

    private static void refuses(String promise, String name, State state, ToLongFunction<SnowWalls> how, long answer, int trouble) {
        REFUSED.add(new Call(promise, name, state, how, answer, trouble));
    }

    /** Each refused call of a promise: its answer, TROUBLE, and that all stays as it was. */
    static void refusedBy(String promise) {
        int many = 0;
        for (Call call : REFUSED) {
            if (call.promise.equals(promise)) {
                refused(call);
                many++;
            }
        }
        Check.due("there are refusals of promise " + promise, many > 0, true);
    }

    private static void refused(Call call) {
        SnowWalls untouched = call.state.make();
        SnowWalls walls = call.state.make();
        Check.due(call.name, call.made(walls), call.answer);
        Check.due("trouble behind " + call.name, walls.trouble(), call.trouble);
        Check.due("where behind " + call.name, walls.where(), -1);
        Check.due("refused once more: " + call.name, call.made(walls), call.answer);
        Check.due("all as it was behind " + call.name, Sight.of(walls), Sight.of(untouched));
    }

    /** A call that looks on leaves all as it was. */
    static void leavesAll(String promise) {
        for (Call call : ANSWERED) {
            if (call.promise.equals(promise)) {
                SnowWalls walls = call.state.make();
                long first = call.made(walls);
                Check.due("trouble behind " + call.name, walls.trouble(), 0);
                Check.due("answered once more: " + call.name, call.made(walls), first);
                Check.due("all as it was behind " + call.name, Sight.of(walls), Sight.of(call.state.make()));
            }
        }
    }

    static {
        answers("6", "start(0)", State.MIDDLE, x -> of(x.start(0)));
        answers("7", "hour(6)", State.MIDDLE, x -> of(x.hour(6)));
        answers("8", "tenth()", State.MIDDLE, SnowWalls::tenth);
        answers("9", "finish()", State.MIDDLE, SnowWalls::finish);
        answers("9", "finish()", State.ENDED, SnowWalls::finish);
        answers("10", "over()", State.MIDDLE, SnowWalls::over);
        answers("10", "over()", State.ENDED, SnowWalls::over);
        answers("11", "winner()", State.ENDED, SnowWalls::winner);
        answers("12", "player(3, 3)", State.MIDDLE, x -> x.player(3, 3));
        answers("13", "block(1)", State.MIDDLE, x -> x.block(1));
        answers("14", "left(1)", State.MIDDLE, x -> x.left(1));
        answers("15", "sum(4)", State.MIDDLE, x -> x.sum(4));
        answers("16", "hold(6)", State.MIDDLE, x -> x.hold(6));
        answers("17", "bestHour()", State.MIDDLE, SnowWalls::bestHour);
        answers("18", "mark()", State.MIDDLE, SnowWalls::mark);
        answers("19", "back(1)", State.MIDDLE, x -> of(x.back(1)));
        answers("20", "wins(2, 60)", State.MIDDLE, x -> x.wins(2, 60));
        answers("21", "fair(60)", State.MIDDLE, x -> x.fair(60));
        answers("22", "chance(0, 3, true)", State.MIDDLE, x -> x.chance(0, 3, true));
        answers("23", "hidden(0, 3)", State.MIDDLE, x -> x.hidden(0, 3));
        answers("23", "hidden(3, 0)", State.MIDDLE, x -> x.hidden(3, 0));
        answers("24", "odds(0, 3, false)", State.MIDDLE, x -> x.odds(0, 3, false));
        answers("25", "pair(2, 3, 0)", State.MIDDLE, x -> x.pair(2, 3, 0));
        answers("26", "gain(2, 3, 0)", State.MIDDLE, x -> x.gain(2, 3, 0));
        answers("27", "dash(9, 8, 100)", State.MIDDLE, x -> x.dash(9, 8, 100));
        answers("28", "runners(8, 100, 100)", State.MIDDLE, x -> x.runners(8, 100, 100));
        answers("29", "hides(5)", State.MIDDLE, x -> x.hides(5));
        answers("29", "hides(0)", State.BARE, x -> x.hides(0));
        answers("30", "build(1, 180)", State.MIDDLE, x -> x.build(1, 180));
        answers("31", "least(0, 3)", State.MIDDLE, x -> x.least(0, 3));
        answers("32", "most(0, 3)", State.MIDDLE, x -> x.most(0, 3));
        answers("33", "mix(0, 3)", State.MIDDLE, x -> x.mix(0, 3));
        answers("34", "rests(0, 3)", State.MIDDLE, x -> x.rests(0, 3));
        answers("35", "supply(1, 3)", State.MIDDLE, x -> x.supply(1, 3));
        answers("36", "stands(1, 200)", State.MIDDLE, x -> x.stands(1, 200));
        answers("37", "falls(1)", State.MIDDLE, x -> x.falls(1));
        answers("38", "ways(19)", State.MIDDLE, x -> x.ways(19));
        answers("39", "who(1, 19)", State.MIDDLE, x -> x.who(1, 19));
        answers("40", "see(2)", State.MIDDLE, x -> x.see(2));
        answers("41", "likely(1)", State.MIDDLE, x -> x.likely(1));
        answers("42", "learn()", State.MIDDLE, SnowWalls::learn);
        answers("43", "next()", State.MIDDLE, SnowWalls::next);
        refusedWithoutMatch();
        refusedNumbers();
        refusedPlayers();
        refusedPairs();
        refusedBeyondRoom();
    }

    private static void refusedWithoutMatch() {
        State none = State.FRESH;
        refuses("3", "match(-1)", none, x -> x.match(-1), -1, 2);
        refuses("3", "match(21)", none, x -> x.match(21), -1, 2);
        refuses("6", "start(0)", none, x -> of(x.start(0)), 0, 1);
        refuses("6", "start(-1)", none, x -> of(x.start(-1)), 0, 1);
        refuses("6", "start(65537)", none, x -> of(x.start(65537)), 0, 1);
        refuses("7", "hour(0)", none, x -> of(x.hour(0)), 0, 1);
        refuses("8", "tenth()", none, SnowWalls::tenth, -1, 1);
        refuses("9", "finish()", none, SnowWalls::finish, -1, 1);
        refuses("10", "over()", none, SnowWalls::over, -1, 1);
        refuses("11", "winner()", none, SnowWalls::winner, -1, 1);
        refuses("12", "player(0, 0)", none, x -> x.player(0, 0), -1, 1);
        refuses("13", "block(0)", none, x -> x.block(0), -1, 1);
        refuses("14", "left(0)", none, x -> x.left(0), -1, 1);
        refuses("15", "sum(0)", none, x -> x.sum(0), -1, 1);
        refuses("16", "hold(0)", none, x -> x.hold(0), -1, 1);
        refuses("17", "bestHour()", none, SnowWalls::bestHour, -1, 1);
        refuses("18", "mark()", none, SnowWalls::mark, -1, 1);
        refuses("19", "back(0)", none, x -> of(x.back(0)), 0, 1);
        refuses("20", "wins(0, 1)", none, x -> x.wins(0, 1), -1, 1);
        refuses("20", "wins(0, 0)", none, x -> x.wins(0, 0), -1, 1);
        refuses("21", "fair(1)", none, x -> x.fair(1), -1000, 1);
        refuses("21", "fair(61)", none, x -> x.fair(61), -1000, 1);
        refuses("29", "hides(0)", none, x -> x.hides(0), -1, 1);
        refuses("29", "hides(-1)", none, x -> x.hides(-1), -1, 1);
        refuses("30", "build(0, 0)", none, x -> x.build(0, 0), -1, 1);
        refuses("30", "build(0, 181)", none, x -> x.build(0, 181), -1, 1);
        refuses("35", "supply(0, 0)", none, x -> x.supply(0, 0), -1, 1);
        refuses("35", "supply(0, -1)", none, x -> x.supply(0, -1), -1, 1);
        refuses("36", "stands(0, 0)", none, x -> x.stands(0, 0), -1, 1);
        refuses("36", "stands(0, 201)", none, x -> x.stands(0, 201), -1, 1);
        refuses("37", "falls(0)", none, x -> x.falls(0), -1, 1);
        refuses("38", "ways(0)", none, x -> x.ways(0), -1, 1);
        refuses("38", "ways(20)", none, x -> x.ways(20), -1, 1);
        refuses("39", "who(0, 0)", none, x -> x.who(0, 0), -1, 1);
        refuses("39", "who(0, 20)", none, x -> x.who(0, 20), -1, 1);
        refuses("40", "see(0)", none, x -> x.see(0), -1, 1);
        refuses("40", "see(3)", none, x -> x.see(3), -1, 1);
        refuses("41", "likely(0)", none, x -> x.likely(0), -1, 1);
        refuses("42", "learn()", none, SnowWalls::learn, -1, 1);
        refuses("43", "next()", none, SnowWalls::next, -1, 1);
    }

    /** Numbers outside from .. to: the nearest ones and the farthest ones. */
    private static int[] outside(int from, int to) {
        return new int[] {from - 1, to + 1, FAR_OFF[0], FAR_OFF[1]};
    }

    private static void refusedNumbers() {
        State middle = State.MIDDLE;
        refuses("8", "tenth()", State.ENDED, SnowWalls::tenth, -1, 5);
        refuses("11", "winner()", middle, SnowWalls::winner, -1, 5);
        refuses("42", "learn()", State.BARE, SnowWalls::learn, -1, 6);
        refuses("43", "next()", State.BARE, SnowWalls::next, -1, 6);
        for (int n : outside(0, 20)) {
            refuses("3", "match(" + n + ")", middle, x -> x.match(n), -1, 2);
        }
        for (int seed : outside(0, 65536)) {
            refuses("6", "start(" + seed + ")", middle, x -> of(x.start(seed)), 0, 2);
        }
        for (int h : new int[] {-1, 0, 4, 7, 23, 24, FAR_OFF[0], FAR_OFF[1]}) {
            refuses("7", "hour(" + h + ")", middle, x -> of(x.hour(h)), 0, 1);
            refuses("16", "hold(" + h + ")", middle, x -> x.hold(h), -1, 1);
        }
        for (int p : outside(0, 3)) {
            refuses("12", "player(" + p + ", 0)", middle, x -> x.player(p, 0), -1, 1);
            refuses("12", "player(0, " + p + ")", middle, x -> x.player(0, p), -1, 1);
        }
        for (int i : outside(0, 1)) {
            refuses("13", "block(" + i + ")", middle, x -> x.block(i), -1, 1);
            refuses("14", "left(" + i + ")", middle, x -> x.left(i), -1, 1);
            refuses("19", "back(" + i + ")", middle, x -> of(x.back(i)), 0, 1);
            refuses("30", "build(" + i + ", 0)", middle, x -> x.build(i, 0), -1, 1);
            refuses("30", "build(" + i + ", 181)", middle, x -> x.build(i, 181), -1, 1);
            refuses("35", "supply(" + i + ", 0)", middle, x -> x.supply(i, 0), -1, 1);
            refuses("35", "supply(" + i + ", 4)", middle, x -> x.supply(i, 4), -1, 1);
            refuses("36", "stands(" + i + ", 0)", middle, x -> x.stands(i, 0), -1, 1);
            refuses("36", "stands(" + i + ", -1)", middle, x -> x.stands(i, -1), -1, 1);
            refuses("37", "falls(" + i + ")", middle, x -> x.falls(i), -1, 1);
            refuses("39", "who(" + i + ", 0)", middle, x -> x.who(i, 0), -1, 1);
            refuses("39", "who(" + i + ", 20)", middle, x -> x.who(i, 20), -1, 1);
            refuses("41", "likely(" + i + ")", middle, x -> x.likely(i), -1, 1);
        }
        for (int what : outside(0, 4)) {
            refuses("15", "sum(" + what + ")", middle, x -> x.sum(what), -1, 1);
        }
        for (int side : outside(0, 2)) {
            refuses("20", "wins(" + side + ", 1)", middle, x -> x.wins(side, 1), -1, 1);
            refuses("20", "wins(" + side + ", 0)", middle, x -> x.wins(side, 0), -1, 1);
            refuses("40", "see(" + side + ")", middle, x -> x.see(side), -1, 2);
        }
        for (int n : outside(1, 60)) {
            refuses("20", "wins(2, " + n + ")", middle, x -> x.wins(2, n), -1, 2);
            refuses("21", "fair(" + n + ")", middle, x -> x.fair(n), -1000, 2);
        }
        for (int sites : new int[] {3, 6, 7, 8, 9, 10, 64, -1, FAR_OFF[0], FAR_OFF[1]}) {
            refuses("29", "hides(" + sites + ")", middle, x -> x.hides(sites), -1, 2);
        }
        for (int minutes : outside(0, 180)) {
            refuses("30", "build(0, " + minutes + ")", middle, x -> x.build(0, minutes), -1, 2);
        }
        for (int n : outside(0, 3)) {
            refuses("35", "supply(0, " + n + ")", middle, x -> x.supply(0, n), -1, 2);
        }
        for (int n : outside(0, 200)) {
            refuses("36", "stands(0, " + n + ")", middle, x -> x.stands(0, n), -1, 2);
        }
        for (int d : outside(0, 19)) {
            refuses("38", "ways(" + d + ")", middle, x -> x.ways(d), -1, 2);
            refuses("39", "who(0, " + d + ")", middle, x -> x.who(0, d), -1, 2);
        }
        for (int run : outside(1, 9)) {
            refuses("27", "dash(" + run + ", 0, 0)", middle, x -> x.dash(run, 0, 0), -1, 2);
        }
        for (int many : outside(0, 8)) {
            refuses("27", "dash(1, " + many + ", 0)", State.FRESH, x -> x.dash(1, many, 0), -1, 2);
            refuses("28", "runners(" + many + ", 0, 0)", State.FRESH, x -> x.runners(many, 0, 0), -1, 2);
        }
        for (int c : outside(0, 100)) {
            refuses("27", "dash(9, 8, " + c + ")", middle, x -> x.dash(9, 8, c), -1, 2);
            refuses("28", "runners(8, " + c + ", 100)", middle, x -> x.runners(8, c, 100), -1, 2);
            refuses("28", "runners(8, 100, " + c + ")", middle, x -> x.runners(8, 100, c), -1, 2);
        }
    }

    private static void refusedPlayers() {
        List<int[]> twos = new ArrayList<>(List.of(new int[] {0, 0}, new int[] {0, 1}, new int[] {1, 0}, new int[] {2, 3},
            new int[] {3, 2}, new int[] {3, 3}));
        for (int none : outside(0, 3)) {
            twos.add(new int[] {none, 0});
            twos.add(new int[] {3, none});
        }
        for (int[] two : twos) {
            refusedTwo(State.MIDDLE, two[0], two[1]);
        }
        refusedTwo(State.FRESH, 0, 1);
        refusedTwo(State.BARE, 0, 0);
    }

    private static void refusedTwo(State state, int p, int q) {
        String two = "(" + p + ", " + q + ")";
        refuses("22", "chance" + two, state, x -> x.chance(p, q, true), -1, 1);
        refuses("22", "chance flat" + two, state, x -> x.chance(p, q, false), -1, 1);
        refuses("23", "hidden" + two, state, x -> x.hidden(p, q), -1, 1);
        refuses("24", "odds" + two, state, x -> x.odds(p, q, true), -1, 1);
        refuses("24", "odds flat" + two, state, x -> x.odds(p, q, false), -1, 1);
        refuses("31", "least" + two, state, x -> x.least(p, q), -1, 1);
        refuses("32", "most" + two, state, x -> x.most(p, q), -1, 1);
        refuses("33", "mix" + two, state, x -> x.mix(p, q), -1, 1);
        refuses("34", "rests" + two, state, x -> x.rests(p, q), -1, 1);
    }

    private static void refusedPairs() {
        List<int[]> threes = new ArrayList<>(List.of(new int[] {0, 0, 2}, new int[] {3, 3, 0}, new int[] {2, 0, 3},
            new int[] {0, 2, 3}, new int[] {0, 1, 0}, new int[] {0, 1, 1}, new int[] {2, 3, 2}));
        for (int none : outside(0, 3)) {
            threes.add(new int[] {none, 1, 2});
            threes.add(new int[] {0, none, 2});
            threes.add(new int[] {0, 1, none});
        }
        for (int[] three : threes) {
            refusedThree(State.MIDDLE, three[0], three[1], three[2]);
        }
        refusedThree(State.FRESH, 0, 1, 2);
    }

    private static void refusedThree(State state, int p, int r, int q) {
        String three = "(" + p + ", " + r + ", " + q + ")";
        refuses("25", "pair" + three, state, x -> x.pair(p, r, q), -1, 1);
        refuses("26", "gain" + three, state, x -> x.gain(p, r, q), -1, 1);
    }

    private static void refusedBeyondRoom() {
        refuses("18", "mark()", State.FULL, SnowWalls::mark, -1, 3);
        for (int act = 0; act <= 2; act++) {
            int any = act;
            refuses("40", "see(" + act + ")", State.FULL, x -> x.see(any), -1, 3);
        }
        refuses("40", "see(3)", State.FULL, x -> x.see(3), -1, 2);
        refuses("19", "back(4)", State.FULL, x -> of(x.back(4)), 0, 1);
        refuses("13", "block(0)", State.BARE, x -> x.block(0), -1, 1);
        refuses("19", "back(0)", State.BARE, x -> of(x.back(0)), 0, 1);
        refuses("29", "hides(1)", State.BARE, x -> x.hides(1), -1, 2);
        refuses("36", "stands(0, 0)", State.BARE, x -> x.stands(0, 0), -1, 1);
        refuses("37", "falls(0)", State.BARE, x -> x.falls(0), -1, 1);
        refuses("39", "who(0, 0)", State.BARE, x -> x.who(0, 0), -1, 1);
        refuses("41", "likely(0)", State.BARE, x -> x.likely(0), -1, 1);
    }
}
