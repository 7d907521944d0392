import java.nio.charset.StandardCharsets;
import java.util.ArrayList;
import java.util.Arrays;
import java.util.HashMap;
import java.util.List;
import java.util.Map;
import java.util.Set;
import java.util.regex.Matcher;
import java.util.regex.Pattern;

/** The document once more, written otherwise: what the random runs hold SnowWalls against. */
final class Oracle {
    private static final int M = 65537;
    private static final Set<String> NO_NAMES = Set.of("law", "snow", "referee", "block", "player", "site", "print",
        "at", "guess", "left", "right", "flat", "high", "rolls", "makes", "goes", "ducks");
    private static final Map<String, String> LINES = Map.of(
        "law", "carry #1-9 line #0-10 tenths #1-99 thaws #0-20",
        "snow", "#0-23 wet #0-9 deep #0-9",
        "referee", "#0-19 sees #0-9",
        "block", "%block of SIDE at #0-4 , #0-19 strong #1-9",
        "player", "%player of SIDE at #0-4 , #0-19 arm #0-9 dodge #0-9 balls #0-9",
        "site", "%site of SIDE at #0-4 , #0-19 takes #1-30",
        "print", "of SIDE at #0-4 , #0-19",
        "at", "#0-98 @ ACT",
        "guess", "%guess weighs #1-99 flat #0-10 high #0-REST");
    private static final Map<String, Integer> ROOM = Map.of("law", 1, "snow", 5, "referee", 1, "block", 8, "player", 8,
        "site", 6, "print", 6, "at", 20, "guess", 4);
    private static final List<String> ACTS = List.of("flat", "high", "rolls", "makes", "goes", "ducks");

    /** A text told, by sorts of LINES; each LINE is its numbers in the order of the text. */
    private static final class Told {
        final Map<String, List<int[]>> lines = new HashMap<>();

        Told() {
            for (String sort : LINES.keySet()) {
                lines.put(sort, new ArrayList<>());
            }
        }

        List<int[]> of(String sort) {
            return lines.get(sort);
        }
    }

    private static final class Fault extends RuntimeException {
        private static final long serialVersionUID = 1;
        final int number;
        final int place;

        Fault(int number, int place) {
            this.number = number;
            this.place = place;
        }
    }

    /** What changes in a GAME. Rows: players' x, balls, thrown, out. */
    private static final class State implements Cloneable {
        int[][] players;
        int[] strong;
        int[] sums = new int[5];
        int passed;
        int won = -1;
        int seed;
        int hour;

        State copy() {
            State s = new State();
            s.players = new int[players.length][];
            for (int i = 0; i < players.length; i++) {
                s.players[i] = players[i].clone();
            }
            s.strong = strong.clone();
            s.sums = sums.clone();
            s.passed = passed;
            s.won = won;
            s.seed = seed;
            s.hour = hour;
            return s;
        }
    }

    private final List<Integer> tape = new ArrayList<>();
    private Told told;
    private State game;
    private final List<State> marks = new ArrayList<>();
    private final List<Integer> seen = new ArrayList<>();
    private int trouble;
    private int fault;
    private int place;

    // ---- text

    int feed(int a, int b, int c, int d, int e) {
        if (tape.size() > 880) {
            return -1;
        }
        for (int number : new int[] {a, b, c, d, e}) {
            tape.add(number >>> 24);
            tape.add(number >>> 16 & 255);
            tape.add(number >>> 8 & 255);
            tape.add(number & 255);
        }
        return tape.size();
    }

    int match(int n) {
        if (n < 0 || n > tape.size()) {
            return no(2);
        }
        byte[] bytes = new byte[n];
        for (int i = 0; i < n; i++) {
            bytes[i] = (byte) (int) tape.get(i);
        }
        tape.clear();
        Told t;
        try {
            t = read(new String(bytes, StandardCharsets.ISO_8859_1));
        } catch (Fault f) {
            fault = f.number;
            place = f.place;
            return no(4);
        }
        fault = 0;
        told = t;
        marks.clear();
        seen.clear();
        game = beginning(0, told.of("snow").get(0)[0]);
        return yes(told.of("player").size());
    }

    private static Told read(String text) {
        // tokens: the sign or signs, and where they begin
        List<String> tokens = new ArrayList<>();
        List<Integer> places = new ArrayList<>();
        Matcher m = Pattern.compile("[a-z]+|[0-9]+|[^ ]", Pattern.DOTALL).matcher(text);
        while (m.find()) {
            tokens.add(m.group());
            places.add(m.start());
        }
        tokens.add("END");
        places.add(text.length());
        Told t = new Told();
        Map<String, int[]> names = new HashMap<>();
        int i = 0;
        while (true) {
            String sort = tokens.get(i);
            if (!LINES.containsKey(sort)) {
                throw new Fault(1, places.get(i));
            }
            if (t.of(sort).size() == ROOM.get(sort)) {
                throw new Fault(ROOM.get(sort) == 1 ? 3 : 5, places.get(i));
            }
            i++;
            List<Integer> got = new ArrayList<>();
            i = readLine(LINES.get(sort).split(" "), tokens, places, i, names, t, got);
            t.of(sort).add(got.stream().mapToInt(Integer::intValue).toArray());
            if (tokens.get(i).equals("END")) {
                break;
            }
            if (!tokens.get(i).equals(";")) {
                throw new Fault(1, places.get(i));
            }
            i++;
        }
        for (String needed : List.of("law", "snow", "player")) {
            if (t.of(needed).isEmpty()) {
                throw new Fault(6, text.length());
            }
        }
        return t;
    }

    private static int readLine(String[] form, List<String> tokens, List<Integer> places, int from,
            Map<String, int[]> names, Told t, List<Integer> got) {
        int i = from;
        for (String item : form) {
            String token = tokens.get(i);
            int at = places.get(i);
            if (item.startsWith("#")) {
                if (!token.matches("[0-9]{1,3}")) {
                    throw new Fault(1, at);
                }
                String[] bounds = item.substring(1).split("-");
                int highest = bounds[1].equals("REST") ? 10 - got.get(1) : Integer.parseInt(bounds[1]);
                int whole = Integer.parseInt(token);
                if (whole < Integer.parseInt(bounds[0]) || whole > highest) {
                    throw new Fault(4, at);
                }
                got.add(whole);
            } else if (item.startsWith("%") || item.equals("@")) {
                name(item, token, at, names, t, got);
            } else if (item.equals("SIDE")) {
                if (!token.equals("left") && !token.equals("right")) {
                    throw new Fault(1, at);
                }
                got.add(token.equals("left") ? 0 : 1);
            } else if (item.equals("ACT")) {
                int act = ACTS.indexOf(token);
                if (act < 0) {
                    throw new Fault(1, at);
                }
                got.add(act);
                if (act < 3) {
                    i++;
                    name("@", tokens.get(i), places.get(i), names, t, got);
                }
            } else if (!token.equals(item)) {
                throw new Fault(1, at);
            }
            i++;
        }
        return i;
    }

    private static void name(String item, String token, int at, Map<String, int[]> names, Told t, List<Integer> got) {
        if (!token.matches("[a-z]{1,8}") || NO_NAMES.contains(token)) {
            throw new Fault(1, at);
        }
        int[] known = names.get(token);
        if (item.equals("@")) {
            if (known == null || known[0] == 0) {
                throw new Fault(2, at);
            }
            got.add(known[1]);
            return;
        }
        if (known != null) {
            throw new Fault(3, at);
        }
        String sort = item.substring(1);
        names.put(token, new int[] {sort.equals("player") ? 1 : 0, t.of(sort).size()});
    }

    int fault() {
        return fault;
    }

    int where() {
        return trouble == 4 ? place : -1;
    }

    int trouble() {
        return trouble;
    }

    private int no(int why) {
        trouble = why;
        return -1;
    }

    private int yes(int value) {
        trouble = 0;
        return value;
    }

    // ---- what is told

    private int[] law() {
        return told.of("law").get(0);
    }

    private int many(String sort) {
        return told == null ? 0 : told.of(sort).size();
    }

    private boolean is(String sort, int i) {
        return i >= 0 && i < many(sort);
    }

    private int side(int p) {
        return told.of("player").get(p)[0];
    }

    private int lane(int p) {
        return told.of("player").get(p)[1];
    }

    private int[] snow(int hour) {
        int[] found = null;
        if (told != null) {
            for (int[] s : told.of("snow")) {
                if (s[0] == hour) {
                    found = s;
                }
            }
        }
        return found;
    }

    private static int hold(int[] snow) {
        return new int[] {0, 0, 40, 40, 90, 90, 90, 70, 70, 20}[snow[1]];
    }

    private int hold(State s) {
        return hold(snow(s.hour));
    }

    private State beginning(int seed, int hour) {
        State s = new State();
        s.players = new int[many("player")][];
        for (int p = 0; p < s.players.length; p++) {
            int[] line = told.of("player").get(p);
            s.players[p] = new int[] {line[2], line[5], 0, 0};
        }
        s.strong = new int[many("block")];
        for (int b = 0; b < s.strong.length; b++) {
            s.strong[b] = told.of("block").get(b)[3];
        }
        s.seed = seed;
        s.hour = hour;
        return s;
    }

    // ---- games

    private static int draw(State s) {
        s.seed = (int) ((75L * s.seed + 74) % M);
        return s.seed % 100;
    }

    private int chance(State s, int p, int q, boolean high, int dodge, boolean ducks) {
        int far = Math.abs(lane(p) - lane(q)) + Math.abs(s.players[p][0] - s.players[q][0]);
        int arm = told.of("player").get(p)[3];
        int c;
        if (high) {
            c = 70;
            c -= 3 * far;
            c += 4 * arm;
            c -= 4 * dodge;
            c -= 2 * s.players[p][2];
            if (ducks) {
                c += 15;
            }
        } else {
            c = 95;
            c -= 4 * far;
            c += 5 * arm;
            c -= 6 * dodge;
            c -= 3 * s.players[p][2];
        }
        return c < 0 ? 0 : c > 100 ? 100 : c;
    }

    private int dodge(int p) {
        return told.of("player").get(p)[4];
    }

    private int hider(State s, int p, int q) {
        int step = Integer.signum(s.players[p][0] - s.players[q][0]);
        for (int x = s.players[q][0] + step; step != 0 && x != s.players[p][0]; x += step) {
            for (int b = 0; b < s.strong.length; b++) {
                int[] block = told.of("block").get(b);
                if (s.strong[b] > 0 && block[1] == lane(q) && block[2] == x) {
                    return b;
                }
            }
        }
        return -2;
    }

    private boolean over(State s) {
        if (s.passed == 0) {
            return false;
        }
        return s.won >= 0 || s.passed == law()[2] || left(s, 0) == 0 || left(s, 1) == 0;
    }

    private int left(State s, int side) {
        int many = 0;
        for (int p = 0; p < s.players.length; p++) {
            many += side(p) == side ? 1 - s.players[p][3] : 0;
        }
        return many;
    }

    private int winner(State s) {
        if (s.won >= 0) {
            return s.won;
        }
        int more = Integer.compare(left(s, 0), left(s, 1));
        return more > 0 ? 0 : more < 0 ? 1 : 2;
    }

    private void pass(State s) {
        int t = s.passed;
        List<int[]> now = new ArrayList<>();
        for (int[] line : told.of("at")) {
            if (line[0] == t) {
                now.add(line);
            }
        }
        boolean[] ducks = new boolean[8];
        int[] thrownAt = new int[8];
        for (int[] line : now) {
            if (line[2] == 5) {
                ducks[line[1]] = true;
            }
            if (line[2] < 2 && s.players[line[1]][3] == 0 && s.players[line[1]][1] > 0 && side(line[1]) != side(line[3])) {
                thrownAt[line[3]] |= line[2] + 1;
            }
        }
        for (int[] line : now) {
            int[] p = s.players[line[1]];
            if (p[3] == 1) {
                continue;
            }
            if (line[2] == 0 || line[2] == 1) {
                toss(s, line[1], line[3], line[2] == 1, thrownAt[line[3]] == 3, ducks[line[3]]);
            } else if (line[2] == 2) {
                int[] q = s.players[line[3]];
                if (line[1] != line[3] && p[1] > 0 && side(line[1]) == side(line[3]) && q[3] == 0 && q[1] < law()[0]) {
                    p[1]--;
                    q[1]++;
                }
            } else if (line[2] == 3) {
                if (hold(s) != 0 && snow(s.hour)[2] != 0 && p[1] < law()[0]) {
                    p[1]++;
                }
            } else if (line[2] == 4) {
                go(s, line[1]);
            }
        }
        if (thaws(s, t)) {
            for (int b = 0; b < s.strong.length; b++) {
                s.strong[b] = Math.max(0, s.strong[b] - 1 - (leant(s, b) ? 1 : 0));
            }
        }
        s.passed++;
    }

    private void go(State s, int player) {
        int[] p = s.players[player];
        boolean firstHalf = 2 * s.passed < law()[2];
        if (side(player) == 0) {
            if (p[0] + 1 <= 19 && (!firstHalf || p[0] + 1 <= law()[1])) {
                p[0]++;
                if (p[0] == 19 && s.won < 0) {
                    s.won = 0;
                }
            }
        } else if (p[0] - 1 >= 0 && (!firstHalf || p[0] - 1 >= 19 - law()[1])) {
            p[0]--;
            if (p[0] == 0 && s.won < 0) {
                s.won = 1;
            }
        }
    }

    private void toss(State s, int p, int q, boolean high, boolean paired, boolean ducks) {
        int[] me = s.players[p];
        int[] it = s.players[q];
        if (me[1] == 0 || side(p) == side(q) || it[3] == 1) {
            return;
        }
        int c = chance(s, p, q, high, paired ? 0 : dodge(q), ducks);
        me[1]--;
        me[2]++;
        s.sums[0]++;
        if (draw(s) >= hold(s)) {
            s.sums[1]++;
            return;
        }
        if (!high && hider(s, p, q) >= 0) {
            s.strong[hider(s, p, q)]--;
            s.sums[2]++;
            return;
        }
        if (!high && ducks || c == 0 || draw(s) >= c) {
            return;
        }
        s.sums[3]++;
        if (many("referee") == 1) {
            int[] referee = told.of("referee").get(0);
            int sees = Math.max(0, 100 - referee[1] * Math.abs(it[0] - referee[0]));
            if (sees < 100 && draw(s) >= sees) {
                s.sums[4]++;
                return;
            }
        }
        it[3] = 1;
    }

    private boolean thaws(State s, int t) {
        return law()[3] != 0 && (t + 1) % law()[3] == 0 && snow(s.hour)[1] >= 7;
    }

    private boolean leant(State s, int b) {
        int[] block = told.of("block").get(b);
        int x = block[0] == 0 ? block[2] - 1 : block[2] + 1;
        for (int p = 0; p < s.players.length; p++) {
            if (side(p) == block[0] && lane(p) == block[1] && s.players[p][0] == x && s.players[p][3] == 0) {
                return true;
            }
        }
        return false;
    }

    int start(int seed) {
        if (told == null) {
            return no(1) + 1;
        }
        if (seed < 0 || seed > 65536) {
            return no(2) + 1;
        }
        game = beginning(seed, game.hour);
        return yes(1);
    }

    int hour(int h) {
        if (snow(h) == null) {
            return no(1) + 1;
        }
        game.hour = h;
        return yes(1);
    }

    int tenth() {
        if (told == null) {
            return no(1);
        }
        if (over(game)) {
            return no(5);
        }
        pass(game);
        return yes(game.passed);
    }

    int finish() {
        if (told == null) {
            return no(1);
        }
        int from = game.passed;
        while (!over(game)) {
            pass(game);
        }
        return yes(game.passed - from);
    }

    int over() {
        return told == null ? no(1) : yes(over(game) ? 1 : 0);
    }

    int winner() {
        return told == null ? no(1) : over(game) ? yes(winner(game)) : no(5);
    }

    int player(int p, int what) {
        return is("player", p) && what >= 0 && what < 4 ? yes(game.players[p][what]) : no(1);
    }

    int block(int b) {
        return is("block", b) ? yes(game.strong[b]) : no(1);
    }

    int left(int side) {
        return told != null && (side == 0 || side == 1) ? yes(left(game, side)) : no(1);
    }

    int sum(int what) {
        return told != null && what >= 0 && what < 5 ? yes(game.sums[what]) : no(1);
    }

    int hold(int h) {
        return snow(h) == null ? no(1) : yes(hold(snow(h)));
    }

    int bestHour() {
        if (told == null) {
            return no(1);
        }
        int best = -1;
        for (int h = 0; h < 24; h++) {
            if (snow(h) != null && (best < 0 || hold(snow(h)) * 10 + snow(h)[2] > hold(snow(best)) * 10 + snow(best)[2])) {
                best = h;
            }
        }
        return yes(best);
    }

    int mark() {
        if (told == null) {
            return no(1);
        }
        if (marks.size() == 4) {
            return no(3);
        }
        marks.add(game.copy());
        return yes(marks.size() - 1);
    }

    int back(int mark) {
        if (mark < 0 || mark >= marks.size()) {
            return no(1) + 1;
        }
        game = marks.get(mark).copy();
        return yes(1);
    }

    private int[] league(int n) {
        int[] wins = new int[3];
        for (int i = 0; i < n; i++) {
            State s = beginning((game.seed + i) % M, game.hour);
            while (!over(s)) {
                pass(s);
            }
            wins[winner(s)]++;
        }
        return wins;
    }

    int wins(int side, int n) {
        if (told == null || side < 0 || side > 2) {
            return no(1);
        }
        return n < 1 || n > 60 ? no(2) : yes(league(n)[side]);
    }

    int fair(int n) {
        if (told == null) {
            return no(1) - 999;
        }
        return n < 1 || n > 60 ? no(2) - 999 : yes(league(n)[0] - league(n)[1]);
    }

    // ---- throws

    private boolean against(int p, int q) {
        return is("player", p) && is("player", q) && side(p) != side(q);
    }

    int chance(int p, int q, boolean high) {
        return against(p, q) ? yes(chance(game, p, q, high, dodge(q), false)) : no(1);
    }

    int hidden(int p, int q) {
        return against(p, q) ? yes(hider(game, p, q)) : no(1);
    }

    int odds(int p, int q, boolean high) {
        return against(p, q) ? yes(chance(game, p, q, high, dodge(q), false) * hold(game)) : no(1);
    }

    private long pairOf(int p, int r, int q, int dodge) {
        long miss = 10000 - chance(game, p, q, false, dodge, false) * hold(game);
        return 100000000 - miss * (10000 - chance(game, r, q, true, dodge, false) * hold(game));
    }

    int pair(int p, int r, int q) {
        return against(p, q) && against(r, q) && p != r ? yes((int) pairOf(p, r, q, 0)) : no(1);
    }

    int gain(int p, int r, int q) {
        return against(p, q) && against(r, q) && p != r
            ? yes((int) (pairOf(p, r, q, 0) - pairOf(p, r, q, dodge(q)))) : no(1);
    }

    private static long dashOf(int run, int throwsMany, int c) {
        long all = 0;
        for (int hits = 0; hits < 1 << throwsMany; hits++) {
            long ways = 1;
            for (int i = 0; i < throwsMany; i++) {
                ways *= (hits >> i & 1) == 1 ? c : 100 - c;
            }
            all += Integer.bitCount(hits) < run ? ways : 0;
        }
        return all;
    }

    long dash(int run, int throwsMany, int c) {
        if (run < 1 || run > 9 || throwsMany < 0 || throwsMany > 8 || c < 0 || c > 100) {
            return no(2);
        }
        trouble = 0;
        return dashOf(run, throwsMany, c);
    }

    int runners(int throwsMany, int c, int w) {
        if (w < 0 || w > 100 || throwsMany < 0 || throwsMany > 8 || c < 0 || c > 100) {
            return no(2);
        }
        long all = 1;
        for (int i = 0; i < throwsMany; i++) {
            all *= 100;
        }
        for (int run = 1; run < 10; run++) {
            if (dashOf(run, throwsMany, c) * 100 >= w * all) {
                return yes(run);
            }
        }
        return yes(-2);
    }

    // ---- building, duels

    private boolean siteBetween(int p, int q, int sites) {
        for (int s = 0; s < many("site"); s++) {
            int[] site = told.of("site").get(s);
            int a = game.players[p][0];
            int b = game.players[q][0];
            if ((sites >> s & 1) == 1 && site[1] == lane(q) && (a < site[2] && site[2] < b || b < site[2] && site[2] < a)) {
                return true;
            }
        }
        return false;
    }

    private int hidesOf(int side, int sites) {
        int many = 0;
        for (int q = 0; q < many("player"); q++) {
            for (int p = 0; p < many("player"); p++) {
                if (side(q) == side && side(p) != side && game.players[p][3] + game.players[q][3] == 0
                    && (hider(game, p, q) >= 0 || siteBetween(p, q, sites))) {
                    many++;
                }
            }
        }
        return many;
    }

    int hides(int sites) {
        if (told == null) {
            return no(1);
        }
        boolean[] sides = new boolean[2];
        for (int s = 0; s < 32; s++) {
            if ((sites >>> s & 1) == 1) {
                if (s >= many("site")) {
                    return no(2);
                }
                sides[told.of("site").get(s)[0]] = true;
            }
        }
        if (sides[0] && sides[1]) {
            return no(2);
        }
        return yes(sites == 0 ? 0 : hidesOf(sides[0] ? 0 : 1, sites));
    }

    int build(int side, int minutes) {
        if (told == null || side < 0 || side > 1) {
            return no(1);
        }
        if (minutes < 0 || minutes > 180) {
            return no(2);
        }
        List<int[]> plans = new ArrayList<>();
        for (int sites = 0; sites < 1 << many("site"); sites++) {
            int takes = 0;
            boolean theirs = true;
            for (int s = 0; s < many("site"); s++) {
                if ((sites >> s & 1) == 1) {
                    takes += told.of("site").get(s)[3];
                    theirs &= told.of("site").get(s)[0] == side;
                }
            }
            if (theirs && takes <= minutes) {
                plans.add(new int[] {-hidesOf(side, sites), takes, sites});
            }
        }
        plans.sort(Arrays::compare);
        return yes(plans.get(0)[2]);
    }

    private int[][] duel(int p, int q) {
        int d = dodge(q);
        return new int[][] {
            {chance(game, p, q, false, d, false), 0, chance(game, p, q, false, 2 * d, false)},
            {chance(game, p, q, true, d, false), chance(game, p, q, true, d, true), chance(game, p, q, true, 2 * d, false)}};
    }

    int least(int p, int q) {
        if (!against(p, q)) {
            return no(1);
        }
        int[][] d = duel(p, q);
        return yes(Math.max(Arrays.stream(d[0]).min().getAsInt(), Arrays.stream(d[1]).min().getAsInt()));
    }

    int most(int p, int q) {
        if (!against(p, q)) {
            return no(1);
        }
        int[][] d = duel(p, q);
        int[] best = new int[3];
        for (int i = 0; i < 3; i++) {
            best[i] = Math.max(d[0][i], d[1][i]);
        }
        return yes(Arrays.stream(best).min().getAsInt());
    }

    private int[] mixOf(int p, int q) {
        int[][] d = duel(p, q);
        int[] best = {0, -1};
        for (int m = 0; m <= 100; m++) {
            int[] worth = new int[3];
            for (int i = 0; i < 3; i++) {
                worth[i] = d[0][i] * m + d[1][i] * (100 - m);
            }
            int least = Arrays.stream(worth).min().getAsInt();
            best = least > best[1] ? new int[] {m, least} : best;
        }
        return best;
    }

    int mix(int p, int q) {
        return against(p, q) ? yes(mixOf(p, q)[0]) : no(1);
    }

    int rests(int p, int q) {
        return against(p, q) ? yes(mixOf(p, q)[1]) : no(1);
    }

    // ---- supply, thaw

    int supply(int side, int n) {
        if (told == null || side < 0 || side > 1) {
            return no(1);
        }
        if (n < 0 || n > law()[0]) {
            return no(2);
        }
        List<Integer> balls = new ArrayList<>();
        for (int p = 0; p < many("player"); p++) {
            if (side(p) == side && game.players[p][3] == 0) {
                balls.add(game.players[p][1]);
            }
        }
        int rolled = 0;
        while (!balls.isEmpty()) {
            balls.sort(null);
            int last = balls.size() - 1;
            if (balls.get(0) >= n) {
                break;
            }
            if (balls.get(last) <= n) {
                return yes(-2);
            }
            balls.set(0, balls.get(0) + 1);
            balls.set(last, balls.get(last) - 1);
            rolled++;
        }
        return yes(rolled);
    }

    private int standing(int block, int n) {
        State s = game.copy();
        for (int i = 0; i < n; i++) {
            if (thaws(s, s.passed)) {
                s.strong[block] = Math.max(0, s.strong[block] - (leant(s, block) ? 2 : 1));
            }
            s.passed++;
        }
        return s.strong[block];
    }

    int stands(int block, int n) {
        return !is("block", block) ? no(1) : n < 0 || n > 200 ? no(2) : yes(standing(block, n));
    }

    int falls(int block) {
        if (!is("block", block)) {
            return no(1);
        }
        int n = 0;
        while (n <= 200 && standing(block, n) > 0) {
            n++;
        }
        return yes(n > 200 ? -2 : n);
    }

    // ---- prints, guesses

    private void spread(int print, int d, int[] owners, List<int[]> all) {
        if (print == owners.length) {
            all.add(owners.clone());
            return;
        }
        int[] at = told.of("print").get(print);
        for (int p = 0; p < many("player"); p++) {
            int[] from = {told.of("player").get(p)[2], game.players[p][0]};
            Arrays.sort(from);
            boolean taken = false;
            for (int before = 0; before < print; before++) {
                taken |= owners[before] == p;
            }
            if (!taken && side(p) == at[0] && lane(p) == at[1] && from[0] - d <= at[2] && at[2] <= from[1] + d) {
                owners[print] = p;
                spread(print + 1, d, owners, all);
            }
        }
    }

    private List<int[]> spread(int d) {
        List<int[]> all = new ArrayList<>();
        spread(0, d, new int[many("print")], all);
        return all;
    }

    int ways(int d) {
        return told == null ? no(1) : d < 0 || d > 19 ? no(2) : yes(spread(d).size());
    }

    int who(int print, int d) {
        if (!is("print", print)) {
            return no(1);
        }
        if (d < 0 || d > 19) {
            return no(2);
        }
        int bits = 0;
        for (int[] owners : spread(d)) {
            bits |= 1 << owners[print];
        }
        return yes(bits);
    }

    int see(int act) {
        if (told == null) {
            return no(1);
        }
        if (act < 0 || act > 2) {
            return no(2);
        }
        if (seen.size() == 14) {
            return no(3);
        }
        seen.add(act);
        return yes(seen.size());
    }

    private int[] tenths(int guess) {
        int[] g = told.of("guess").get(guess);
        return new int[] {g[1], g[2], 10 - g[1] - g[2]};
    }

    private long likelyOf(int guess) {
        long product = told.of("guess").get(guess)[0];
        for (int act : seen) {
            product *= tenths(guess)[act];
        }
        return product;
    }

    long likely(int guess) {
        if (!is("guess", guess)) {
            return no(1);
        }
        trouble = 0;
        return likelyOf(guess);
    }

    private int learned() {
        int best = 0;
        for (int g = 0; g < many("guess"); g++) {
            best = likelyOf(g) > likelyOf(best) ? g : best;
        }
        return best;
    }

    int learn() {
        return told == null ? no(1) : many("guess") == 0 ? no(6) : yes(learned());
    }

    int next() {
        if (told == null || many("guess") == 0) {
            return no(told == null ? 1 : 6);
        }
        int[] tenths = tenths(learned());
        int most = Math.max(tenths[0], Math.max(tenths[1], tenths[2]));
        return yes(tenths[0] == most ? 0 : tenths[1] == most ? 1 : 2);
    }

    /** The player, or -9 for the exception. */
    int led(int i) {
        List<Integer> out = new ArrayList<>();
        for (int p = 0; p < many("player"); p++) {
            if (game.players[p][3] == 1) {
                out.add(p);
            }
        }
        return i >= 0 && i < out.size() ? out.get(i) : -9;
    }

    int size(int what) {
        String[] sorts = {"player", "block", "site", "print", "guess", "at", "snow"};
        if (what >= 0 && what < sorts.length) {
            return many(sorts[what]);
        }
        switch (what) {
            case 7:
                return told == null ? 0 : game.passed;
            case 8:
                return told == null ? 0 : game.seed;
            case 9:
                return told == null ? 0 : game.hour;
            case 10:
                return marks.size();
            case 11:
                return seen.size();
            case 12:
                return tape.size();
            default:
                return -1;
        }
    }
}
