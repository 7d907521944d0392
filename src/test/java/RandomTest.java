import java.util.Random;

/** Runs of calls, drawn from given seeds, held against Oracle: texts, whole and spoilt, and then calls of all sorts. */
public final class RandomTest {
    private static final int RUNS = 9000;
    private static final String[] ACTS = {"flat", "high", "rolls", "makes", "goes", "ducks"};

    private final Random random;
    private final SnowWalls walls = new SnowWalls();
    private final Oracle oracle = new Oracle();
    private final StringBuilder told = new StringBuilder();
    private int calls;
    private int players;

    private RandomTest(int seed) {
        random = new Random(seed);
    }

    public static void main(String[] args) {
        for (int seed = 1; seed <= RUNS; seed++) {
            new RandomTest(seed).run(seed);
        }
        Check.done();
    }

    private int upTo(int most) {
        return random.nextInt(most + 1);
    }

    private boolean rarely() {
        return random.nextInt(12) == 0;
    }

    private void run(int seed) {
        // a text takes some 100 calls; no object is promised more than 512
        while (calls < 400) {
            String text = text();
            if (random.nextInt(3) == 0) {
                text = spoil(text);
            }
            feedBoth(text);
            for (int i = upTo(60); i > 0 && calls < 503; i--) {
                call(seed);
            }
        }
    }

    // ---- texts

    private String text() {
        told.setLength(0);
        line("law carry " + (1 + upTo(rarely() ? 8 : 3)) + " line " + upTo(10) + " tenths "
            + (1 + upTo(rarely() ? 98 : 9)) + " thaws " + upTo(rarely() ? 20 : 3));
        for (int i = 1 + upTo(2); i > 0; i--) {
            line("snow " + (random.nextBoolean() ? upTo(2) : upTo(23)) + " wet "
                + (random.nextBoolean() ? 4 + upTo(4) : upTo(9)) + " deep " + upTo(random.nextInt(4) == 0 ? 0 : 9));
        }
        if (random.nextBoolean()) {
            line("referee " + upTo(19) + " sees " + upTo(9));
        }
        players = 1 + upTo(7);
        int lanes = upTo(4);
        for (int i = 0; i < players; i++) {
            line("player " + (char) ('a' + i) + spot(lanes) + " arm " + upTo(9) + " dodge " + upTo(9) + " balls " + upTo(4));
        }
        for (int i = upTo(8); i > 0; i--) {
            line("block w" + (char) ('a' + i) + spot(lanes) + " strong " + (1 + upTo(rarely() ? 8 : 3)));
        }
        for (int i = upTo(6); i > 0; i--) {
            line("site s" + (char) ('a' + i) + spot(lanes) + " takes " + (1 + upTo(rarely() ? 29 : 5)));
        }
        for (int i = upTo(3); i > 0; i--) {
            line("print" + spot(lanes));
        }
        for (int i = upTo(4); i > 0; i--) {
            int flat = upTo(10);
            line("guess g" + (char) ('a' + i) + " weighs " + (1 + upTo(98)) + " flat " + flat + " high " + upTo(10 - flat));
        }
        int latest = rarely() ? 98 : upTo(6);
        for (int i = upTo(20); i > 0; i--) {
            String act = ACTS[random.nextInt(4) == 0 ? upTo(5) : random.nextInt(2) == 0 ? upTo(1) : 4];
            String other = act.length() == 4 && !act.equals("goes") || act.equals("rolls") ? " " + anyPlayer() : "";
            line("at " + upTo(latest) + " " + anyPlayer() + " " + act + other);
        }
        return told.toString();
    }

    private void line(String line) {
        if (told.length() + line.length() < 890) {
            told.append(told.length() == 0 ? "" : random.nextInt(9) == 0 ? " ; " : ";").append(line);
        }
    }

    private String spot(int lanes) {
        return " of " + (random.nextBoolean() ? "left" : "right") + " at " + upTo(lanes) + "," + upTo(19);
    }

    private char anyPlayer() {
        return (char) ('a' + random.nextInt(players));
    }

    private String spoil(String text) {
        String signs = "abz019;,  ?A\u00ff";
        StringBuilder b = new StringBuilder(text);
        for (int i = 1 + upTo(1); i > 0; i--) {
            int at = random.nextInt(b.length());
            switch (random.nextInt(6)) {
                case 0:
                    b.setCharAt(at, signs.charAt(random.nextInt(signs.length())));
                    break;
                case 1:
                    b.deleteCharAt(at);
                    break;
                case 2:
                    b.setLength(at + 1);
                    break;
                case 3:
                    b.insert(at, signs.charAt(random.nextInt(signs.length())));
                    break;
                case 4:
                    spoilWords(b, at);
                    break;
                default:
                    repeatLine(b, at);
                    break;
            }
        }
        return b.length() > 900 ? b.substring(0, 900) : b.toString();
    }

    private void spoilWords(StringBuilder b, int at) {
        String[] words = {"left", "a", "b", "wb", "sb", "gb", "at", "flat", "99", "5", "10", "of", "snow", ";", ","};
        int from = at;
        while (from < b.length() && b.charAt(from) != ' ') {
            from++;
        }
        int to = from + 1;
        while (to < b.length() && b.charAt(to) != ' ') {
            to++;
        }
        if (to < b.length()) {
            b.replace(from + 1, to, words[random.nextInt(words.length)]);
        }
    }

    private void repeatLine(StringBuilder b, int at) {
        int from = b.lastIndexOf(";", at);
        int to = b.indexOf(";", at + 1);
        if (from >= 0 && to > 0) {
            String line = b.substring(from, to);
            for (int i = upTo(8); i >= 0; i--) {
                b.insert(to, line);
            }
        }
    }

    private void feedBoth(String text) {
        for (int from = 0; from < text.length(); from += 20) {
            int[] five = new int[5];
            for (int i = 0; i < 20; i++) {
                five[i / 4] = five[i / 4] << 8 | (from + i < text.length() ? text.charAt(from + i) & 255 : ' ');
            }
            same("feed", walls.feed(five[0], five[1], five[2], five[3], five[4]),
                oracle.feed(five[0], five[1], five[2], five[3], five[4]));
        }
        int n = rarely() ? upTo(60) * 15 : Math.min(text.length(), walls.size(12));
        same("match(" + n + ") of " + text, walls.match(n), oracle.match(n));
        same("fault of " + text, walls.fault(), oracle.fault());
        same("where of " + text, walls.where(), oracle.where());
    }

    // ---- calls

    private void same(String what, long got, long want) {
        calls += 2;
        Check.due(what, got, want);
        Check.due("trouble behind " + what, walls.trouble(), oracle.trouble());
    }

    private int edge(int most) {
        return random.nextInt(16) == 0 ? -1 : random.nextInt(16) == 0 ? most + 1 : upTo(most);
    }

    private void call(int seed) {
        int sort = random.nextInt(4);
        if (sort == 0) {
            callOfGames(seed);
        } else if (sort == 1) {
            callOfTellings(seed);
        } else if (sort == 2) {
            callOfThrows(seed);
        } else {
            callOfTheRest(seed);
        }
    }

    private void callOfGames(int seed) {
        String what = "run " + seed + " ";
        int a = edge(2);
        switch (random.nextInt(12)) {
            case 0:
                int start = edge(65536);
                same(what + "start(" + start + ")", walls.start(start) ? 1 : 0, oracle.start(start));
                break;
            case 1:
                int h = random.nextBoolean() ? edge(2) : edge(23);
                same(what + "hour(" + h + ")", walls.hour(h) ? 1 : 0, oracle.hour(h));
                break;
            case 2:
                same(what + "finish()", walls.finish(), oracle.finish());
                break;
            case 3:
                same(what + "mark()", walls.mark(), oracle.mark());
                break;
            case 4:
                int mark = edge(3);
                same(what + "back(" + mark + ")", walls.back(mark) ? 1 : 0, oracle.back(mark));
                break;
            case 5:
                int n = edge(4) * (rarely() ? 15 : 1);
                same(what + "wins(" + a + ", " + n + ")", walls.wins(a, n), oracle.wins(a, n));
                break;
            case 6:
                int many = edge(4) * (rarely() ? 15 : 1);
                same(what + "fair(" + many + ")", walls.fair(many), oracle.fair(many));
                break;
            case 7:
                same(what + "over()", walls.over(), oracle.over());
                break;
            case 8:
                same(what + "winner()", walls.winner(), oracle.winner());
                break;
            default:
                same(what + "tenth()", walls.tenth(), oracle.tenth());
                break;
        }
    }

    private void callOfTellings(int seed) {
        String what = "run " + seed + " ";
        int a = edge(7);
        int b = edge(3);
        switch (random.nextInt(9)) {
            case 0:
                same(what + "player(" + a + ", " + b + ")", walls.player(a, b), oracle.player(a, b));
                break;
            case 1:
                same(what + "block(" + a + ")", walls.block(a), oracle.block(a));
                break;
            case 2:
                same(what + "left(" + b + ")", walls.left(b), oracle.left(b));
                break;
            case 3:
                same(what + "sum(" + a + ")", walls.sum(a), oracle.sum(a));
                break;
            case 4:
                same(what + "hold(" + a + ")", walls.hold(a), oracle.hold(a));
                break;
            case 5:
                same(what + "bestHour()", walls.bestHour(), oracle.bestHour());
                break;
            case 6:
                same(what + "led(" + b + ")", led(b), oracle.led(b));
                break;
            default:
                int of = edge(13);
                same(what + "size(" + of + ")", walls.size(of), oracle.size(of));
                break;
        }
    }

    private int led(int i) {
        try {
            return walls.led(i);
        } catch (java.util.NoSuchElementException e) {
            return -9;
        }
    }

    private void callOfThrows(int seed) {
        int a = edge(players - 1);
        int b = edge(players - 1);
        int c = edge(players - 1);
        boolean high = random.nextBoolean();
        String two = "(" + a + ", " + b + ")" + (high ? " high" : "");
        String what = "run " + seed + " ";
        switch (random.nextInt(10)) {
            case 0:
                same(what + "chance" + two, walls.chance(a, b, high), oracle.chance(a, b, high));
                break;
            case 1:
                same(what + "hidden" + two, walls.hidden(a, b), oracle.hidden(a, b));
                break;
            case 2:
                same(what + "odds" + two, walls.odds(a, b, high), oracle.odds(a, b, high));
                break;
            case 3:
                same(what + "pair " + a + " " + b + " " + c, walls.pair(a, b, c), oracle.pair(a, b, c));
                break;
            case 4:
                same(what + "gain " + a + " " + b + " " + c, walls.gain(a, b, c), oracle.gain(a, b, c));
                break;
            case 5:
                same(what + "least" + two, walls.least(a, b), oracle.least(a, b));
                break;
            case 6:
                same(what + "most" + two, walls.most(a, b), oracle.most(a, b));
                break;
            case 7:
                same(what + "mix" + two, walls.mix(a, b), oracle.mix(a, b));
                break;
            case 8:
                same(what + "rests" + two, walls.rests(a, b), oracle.rests(a, b));
                break;
            default:
                callOfDashes(what);
                break;
        }
    }

    private void callOfDashes(String what) {
        int run = edge(9);
        int throwsMany = edge(8);
        int c = edge(100);
        int w = edge(100);
        same(what + "dash " + run + " " + throwsMany + " " + c, walls.dash(run, throwsMany, c), oracle.dash(run, throwsMany, c));
        same(what + "runners " + throwsMany + " " + c + " " + w, walls.runners(throwsMany, c, w),
            oracle.runners(throwsMany, c, w));
    }

    private void callOfTheRest(int seed) {
        String what = "run " + seed + " ";
        int side = edge(1);
        int a = edge(random.nextBoolean() ? 2 : 7);
        int d = edge(random.nextBoolean() ? 4 : 19);
        switch (random.nextInt(12)) {
            case 0:
                int sites = rarely() ? random.nextInt() : upTo(63);
                same(what + "hides(" + sites + ")", walls.hides(sites), oracle.hides(sites));
                break;
            case 1:
                int minutes = edge(random.nextBoolean() ? 12 : 180);
                same(what + "build " + side + " " + minutes, walls.build(side, minutes), oracle.build(side, minutes));
                break;
            case 2:
                int n = edge(4);
                same(what + "supply " + side + " " + n, walls.supply(side, n), oracle.supply(side, n));
                break;
            case 3:
                int more = edge(random.nextBoolean() ? 9 : 200);
                same(what + "stands " + a + " " + more, walls.stands(a, more), oracle.stands(a, more));
                break;
            case 4:
                same(what + "falls " + a, walls.falls(a), oracle.falls(a));
                break;
            case 5:
                same(what + "ways " + d, walls.ways(d), oracle.ways(d));
                break;
            case 6:
                same(what + "who " + a + " " + d, walls.who(a, d), oracle.who(a, d));
                break;
            case 7:
                int act = edge(2);
                same(what + "see " + act, walls.see(act), oracle.see(act));
                break;
            case 8:
                same(what + "likely " + a, walls.likely(a), oracle.likely(a));
                break;
            case 9:
                same(what + "learn()", walls.learn(), oracle.learn());
                break;
            case 10:
                same(what + "next()", walls.next(), oracle.next());
                break;
            default:
                same(what + "where()", walls.where(), oracle.where());
                break;
        }
    }
}
