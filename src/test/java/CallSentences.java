/** Promises 6 to 21 and 44 to 46, the LEAGUE and TROUBLE, sentence by sentence, at their bounds. */
final class CallSentences {
    private static final String LAW = Lines.law(3, 8, 6, 0);
    private static final String SNOW = Lines.snow(5, 5, 2);
    private static final String TWO = Lines.left("a", 1, 9, 9, 0, 2) + Lines.right("b", 1, 9, 0, 0, 1);

    private CallSentences() {
    }

    static void all() {
        start();
        hour();
        tenth();
        finish();
        over();
        winner();
        player();
        block();
        left();
        sum();
        hold();
        bestHour();
        mark();
        marksOfAll();
        back();
        league();
        leagueBounds();
        fair();
        led();
        sizes();
        sizeBounds();
        trouble();
        matchRefused();
    }

    private static void start() {
        Doc.says("6", "A GAME from its beginning, with SEED, in HOUR as it is: true;");
        for (int seed : new int[] {0, 1, 65535, 65536}) {
            SnowWalls x = Calls.State.FULL.make();
            x.hour(6);
            x.match(-1);
            Check.due("start(" + seed + ")", x.start(seed), true);
            Check.due("trouble", x.trouble(), 0);
            Check.due("SEED", x.size(8), seed);
            Check.due("HOUR as it is", x.size(9), 6);
            Check.due("TENTHS", x.size(7), 0);
            Check.due("MARKS", x.size(10), 4);
            Check.due("SEEN", x.size(11), 14);
            Check.due("bytes", x.size(12), 20);
            Check.due("over", x.over(), 0);
            Check.due("balls", x.player(0, 1), 3);
            Check.due("thrown", x.player(0, 2), 0);
            Check.due("x", x.player(1, 0), 6);
            Check.due("strong", x.block(1), 5);
            Check.due("sum", x.sum(0), 0);
            // what follows is what follows in a new MATCH
            SnowWalls y = Calls.State.FULL.make();
            y.finish();
            y.start(seed);
            x.start(seed);
            y.hour(6);
            Check.due("the same GAME", Sight.of(x), Sight.of(y));
        }
        SnowWalls x = Calls.State.ENDED.make();
        x.start(3);
        Check.due("over behind an end", x.over(), 0);
        Check.due("tenth behind an end", x.tenth(), 1);
        // behind a GAME that was WON nobody has WON
        x = Check.told(LAW + SNOW + Lines.left("a", 1, 18, 0, 0, 0) + Lines.right("b", 1, 9, 0, 0, 0) + "at 3 a goes");
        Check.due("finish", x.finish(), 4);
        Check.due("winner", x.winner(), 0);
        x.start(0);
        x.tenth();
        Check.due("over behind one that was WON", x.over(), 0);
        Doc.says("6", "false: 1 (no MATCH); 2 (0 .. 65,536).");
        Calls.refusedBy("6");
    }

    private static void hour() {
        Doc.says("7", "HOUR from now on: true;");
        SnowWalls x = Check.told(LAW + Lines.snow(12, 5, 2) + Lines.snow(0, 9, 2) + Lines.snow(23, 1, 2) + Lines.snow(12, 7, 2)
            + Lines.snow(13, 2, 0) + TWO);
        int[][] hours = {{0, 20}, {12, 70}, {13, 40}, {23, 0}};
        for (int[] of : hours) {
            x.match(-1);
            Check.due("hour(" + of[0] + ")", x.hour(of[0]), true);
            Check.due("trouble", x.trouble(), 0);
            Check.due("HOUR", x.size(9), of[0]);
            Check.due("ODDS of CHANCE 100", x.odds(0, 1, false), 100 * of[1]);
        }
        x.start(1);
        Check.due("from now on", x.size(9), 23);
        x.tenth();
        Check.due("from now on", x.size(9), 23);
        Doc.says("7", "false: 1 (no MATCH, no snow of it).");
        for (int h = -2; h <= 26; h++) {
            boolean told = h == 0 || h == 12 || h == 13 || h == 23;
            Check.due("hour(" + h + ")", x.hour(h), told);
            Check.due("trouble behind hour(" + h + ")", x.trouble(), told ? 0 : 1);
        }
        Calls.refusedBy("7");
        // of all else nothing changes
        SnowWalls y = Calls.State.MIDDLE.make();
        y.hour(6);
        y.hour(5);
        Check.due("there and back", Sight.of(y), Sight.of(Calls.State.MIDDLE.make()));
    }

    private static void tenth() {
        Doc.says("8", "A TENTH: how many have passed.");
        SnowWalls x = Check.told(LAW + SNOW + TWO);
        for (int passed = 1; passed <= 6; passed++) {
            x.match(-1);
            Check.due("tenth", x.tenth(), passed);
            Check.due("trouble", x.trouble(), 0);
        }
        Doc.says("8", "NONE: 1 (no MATCH); 5 (it is OVER).");
        Check.refused(x, "a seventh", x.tenth(), 5);
        Check.due("TENTHS", x.size(7), 6);
        Calls.refusedBy("8");
        // MARKS, SEEN, HOUR and THE TAPE stay
        x = Calls.State.FULL.make();
        x.tenth();
        int[] due = {5, 4, 14, 20};
        for (int what = 9; what <= 12; what++) {
            Check.due("size(" + what + ") behind a TENTH", x.size(what), due[what - 9]);
        }
    }

    private static void finish() {
        Doc.says("9", "TENTHS till it is OVER: how many.");
        for (int passed = 0; passed <= 6; passed++) {
            SnowWalls x = Check.told(LAW + SNOW + TWO);
            for (int i = 0; i < passed; i++) {
                x.tenth();
            }
            x.match(-1);
            Check.due("finish behind " + passed, x.finish(), 6 - passed);
            Check.due("trouble", x.trouble(), 0);
            Check.due("over", x.over(), 1);
            Check.due("TENTHS", x.size(7), 6);
            Check.due("finish once more", x.finish(), 0);
            Check.due("trouble", x.trouble(), 0);
        }
        SnowWalls x = Check.told(Lines.law(3, 8, 99, 0) + SNOW + TWO);
        Check.due("finish of 99", x.finish(), 99);
        x = Check.told(Lines.law(3, 8, 1, 0) + SNOW + TWO);
        Check.due("finish of 1", x.finish(), 1);
        // as by tenths
        x = Calls.State.MIDDLE.make();
        while (x.over() == 0) {
            x.tenth();
        }
        Check.due("as by tenths", Sight.of(x), Sight.of(Calls.State.ENDED.make()));
        Doc.says("9", "NONE: 1 (no MATCH).");
        Calls.refusedBy("9");
    }

    private static void over() {
        Doc.says("10", "0 it goes on, 1 it is OVER. NONE: 1 (no MATCH).");
        SnowWalls x = Check.told(Lines.law(3, 8, 1, 0) + SNOW + TWO);
        Check.due("over ahead of the last", x.over(), 0);
        Check.due("trouble", x.trouble(), 0);
        x.tenth();
        x.match(-1);
        Check.due("over behind the last", x.over(), 1);
        Check.due("trouble", x.trouble(), 0);
        Calls.refusedBy("10");
        Calls.leavesAll("10");
    }

    private static void winner() {
        Doc.says("11", "WINNER: 0 left, 1 right, 2 neither.");
        String[] more = {Lines.left("c", 0, 0, 0, 0, 0), Lines.right("c", 0, 0, 0, 0, 0), ""};
        for (int due = 0; due <= 2; due++) {
            SnowWalls x = Check.told(LAW + SNOW + TWO + more[due]);
            x.finish();
            x.match(-1);
            Check.due("winner", x.winner(), due);
            Check.due("trouble", x.trouble(), 0);
        }
        Doc.says("11", "NONE: 1 (no MATCH); 5 (it isn't OVER).");
        Calls.refusedBy("11");
        Calls.leavesAll("11");
        SnowWalls x = Check.told(LAW + SNOW + TWO);
        for (int passed = 0; passed < 6; passed++) {
            Check.refused(x, "winner behind " + passed, x.winner(), 5);
            x.tenth();
        }
        Check.due("winner behind 6", x.winner(), 2);
    }

    private static void player() {
        Doc.says("12", "Of a player 0 x, 1 balls, 2 how often it has thrown, 3 whether it is out (1). NONE: 1.");
        StringBuilder text = new StringBuilder(Lines.law(1, 8, 6, 0) + SNOW);
        for (int p = 0; p < 8; p++) {
            text.append(Lines.player("p" + (char) ('a' + p), p < 4 ? "left" : "right", p % 5, p == 7 ? 19 : p, 0, 0, p == 1 ? 9 : p));
        }
        text.append("at 0 pb flat pe;at 0 pb high pe;at 0 pa makes;at 0 pg goes");
        SnowWalls x = Check.told(text.toString());
        for (int p = 0; p < 8; p++) {
            x.match(-1);
            Check.due("x of " + p, x.player(p, 0), p == 7 ? 19 : p);
            Check.due("trouble", x.trouble(), 0);
            Check.due("balls of " + p, x.player(p, 1), p == 1 ? 9 : p);
            Check.due("thrown by " + p, x.player(p, 2), 0);
            Check.due("out: " + p, x.player(p, 3), 0);
        }
        Check.refused(x, "a ninth player", x.player(8, 0), 1);
        x.start(Draws.seed(90, 99, 90, 99));
        x.tenth();
        Check.due("balls", x.player(1, 1), 7);
        Check.due("thrown", x.player(1, 2), 2);
        Check.due("made", x.player(0, 1), 1);
        x.start(Draws.seed(0, 89, 0, 39));
        x.tenth();
        Check.due("out (1)", x.player(4, 3), 1);
        Check.due("thrown", x.player(1, 2), 1);
        Calls.refusedBy("12");
        Calls.leavesAll("12");
    }

    private static void block() {
        Doc.says("13", "How strong a block is. NONE: 1.");
        StringBuilder text = new StringBuilder(Lines.law(1, 8, 6, 1) + Lines.snow(5, 7, 1) + TWO);
        for (int b = 0; b < 8; b++) {
            text.append(Lines.block("b" + (char) ('a' + b), "left", 4, 0, b + 2));
        }
        SnowWalls x = Check.told(text.toString());
        for (int b = 0; b < 8; b++) {
            x.match(-1);
            Check.due("block(" + b + ")", x.block(b), b + 2);
            Check.due("trouble", x.trouble(), 0);
        }
        Check.refused(x, "a ninth block", x.block(8), 1);
        x.finish();
        Check.due("thawed away", x.block(0), 0);
        Check.due("trouble of one that stands no more", x.trouble(), 0);
        Check.due("thawed", x.block(7), 3);
        Calls.refusedBy("13");
        Calls.leavesAll("13");
    }

    private static void left() {
        Doc.says("14", "How many of a SIDE (0, 1) aren't out. NONE: 1.");
        StringBuilder text = new StringBuilder(LAW + SNOW + Lines.right("z", 1, 9, 9, 0, 9));
        for (int p = 0; p < 7; p++) {
            text.append(Lines.left("p" + (char) ('a' + p), 1, 9, 0, 0, 0));
        }
        text.append("at 0 z flat pa;at 1 z flat pb");
        SnowWalls x = Check.told(text.toString());
        x.start(Draws.seed(0, 89, 0, 99, 0, 89));
        for (int passed = 0; passed <= 2; passed++) {
            x.match(-1);
            Check.due("left behind " + passed, x.left(0), 7 - passed);
            Check.due("trouble", x.trouble(), 0);
            Check.due("right behind " + passed, x.left(1), 1);
            x.tenth();
        }
        x = Check.told(LAW + SNOW + Lines.left("a", 1, 9, 0, 0, 0));
        Check.due("of nobody", x.left(1), 0);
        Check.due("trouble", x.trouble(), 0);
        Calls.refusedBy("14");
        Calls.leavesAll("14");
    }

    private static void sum() {
        Doc.says("15", "So far 0 thrown, 1 fell to bits, 2 hit blocks, 3 HITS, 4 MISSED. NONE: 1.");
        // to bits, at the block, HIT and MISSED, HIT and out; b's and a's together
        SnowWalls x = Check.told(LAW + SNOW + Lines.referee(0, 9) + Lines.left("a", 1, 5, 9, 0, 4) + Lines.right("b", 1, 9, 9, 0, 4)
            + Lines.right("c", 2, 5, 9, 0, 4) + Lines.block("w", "left", 1, 7, 1)
            + "at 0 a flat b;at 1 a flat b;at 2 b high a;at 3 c flat a");
        x.start(Draws.seed(90, 99, 0, 89, 0, 89, 0, 80, 55, 99));
        int[][] due = {{0, 0, 0, 0, 0}, {1, 1, 0, 0, 0}, {2, 1, 1, 0, 0}, {3, 1, 1, 1, 1}};
        for (int passed = 0; passed < due.length; passed++) {
            for (int what = 0; what <= 4; what++) {
                x.match(-1);
                Check.due("sum(" + what + ") behind " + passed, x.sum(what), due[passed][what]);
                Check.due("trouble", x.trouble(), 0);
            }
            x.tenth();
        }
        Check.due("thrown by all", x.sum(0), 4);
        x.start(0);
        Check.due("of this GAME alone", x.sum(0), 0);
        Calls.refusedBy("15");
        Calls.leavesAll("15");
    }

    private static void hold() {
        Doc.says("16", "HOLD in an hour. NONE: 1 (no snow of it).");
        SnowWalls x = Check.told(LAW + Lines.snow(0, 5, 0) + Lines.snow(23, 9, 9) + Lines.snow(1, 0, 9) + TWO);
        int[] due = new int[26];
        java.util.Arrays.fill(due, -1);
        due[1] = 90;
        due[2] = 0;
        due[24] = 20;
        for (int h = -1; h <= 24; h++) {
            x.match(-1);
            Check.due("hold(" + h + ")", x.hold(h), due[h + 1]);
            Check.due("trouble behind hold(" + h + ")", x.trouble(), due[h + 1] < 0 ? 1 : 0);
        }
        x.hour(23);
        Check.due("in an hour that isn't now", x.hold(0), 90);
        Calls.refusedBy("16");
        Calls.leavesAll("16");
    }

    private static void best(String snows, int due) {
        SnowWalls x = Check.told(LAW + snows + TWO);
        x.match(-1);
        Check.due("bestHour of " + snows, x.bestHour(), due);
        Check.due("trouble", x.trouble(), 0);
    }

    private static void bestHour() {
        Doc.says("17", "The hour in which snow HOLDS best, of like ones is deepest, of like ones the least.");
        best(Lines.snow(0, 0, 0), 0);
        best(Lines.snow(23, 0, 0), 23);
        best(Lines.snow(3, 1, 9) + Lines.snow(4, 2, 0), 4);
        best(Lines.snow(4, 2, 0) + Lines.snow(3, 1, 9), 4);
        best(Lines.snow(3, 9, 9) + Lines.snow(4, 3, 0) + Lines.snow(5, 8, 0) + Lines.snow(6, 6, 0) + Lines.snow(7, 7, 9), 6);
        best(Lines.snow(3, 4, 1) + Lines.snow(4, 5, 2) + Lines.snow(5, 6, 1), 4);
        best(Lines.snow(9, 4, 2) + Lines.snow(4, 5, 2) + Lines.snow(5, 6, 2), 4);
        best(Lines.snow(4, 4, 2) + Lines.snow(9, 5, 2) + Lines.snow(5, 6, 2), 4);
        best(Lines.snow(9, 0, 2) + Lines.snow(4, 1, 2), 4);
        best(Lines.snow(9, 0, 2) + Lines.snow(0, 1, 2), 0);
        best(Lines.snow(9, 5, 9) + Lines.snow(4, 3, 2) + Lines.snow(9, 9, 9), 4);
        Doc.says("17", "NONE: 1 (no MATCH).");
        Calls.refusedBy("17");
        Calls.leavesAll("17");
    }

    private static void mark() {
        Doc.says("18", "A MARK of the GAME, SEED, HOUR: its number.");
        SnowWalls x = Check.told(LAW + SNOW + TWO);
        for (int number = 0; number <= 3; number++) {
            x.match(-1);
            Check.due("MARKS", x.size(10), number);
            Check.due("mark", x.mark(), number);
            Check.due("trouble", x.trouble(), 0);
        }
        Doc.says("18", "NONE: 1 (no MATCH); 3 (4 are).");
        Check.refused(x, "a fifth MARK", x.mark(), 3);
        Check.due("MARKS", x.size(10), 4);
        x.back(3);
        Check.refused(x, "a fifth MARK behind back", x.mark(), 3);
        x.start(4);
        Check.refused(x, "a fifth MARK in a new GAME", x.mark(), 3);
        Check.match(x, "?");
        Check.refused(x, "a fifth MARK behind a FAULT", x.mark(), 3);
        Check.tell(x, LAW + SNOW + TWO);
        Check.due("mark in a new MATCH", x.mark(), 0);
        Calls.refusedBy("18");
        // the GAME itself goes on as it was
        x = Calls.State.MIDDLE.make();
        x.mark();
        x.finish();
        SnowWalls y = Calls.State.MIDDLE.make();
        y.finish();
        for (int p = 0; p < 4; p++) {
            for (int what = 0; what <= 3; what++) {
                Check.due("player(" + p + ", " + what + ")", x.player(p, what), y.player(p, what));
            }
        }
        Check.due("SEED", x.size(8), y.size(8));
    }

    /** In TENTHS 0 to 2 a hits the block, is MISSED, goes, and HITS b; in TENTH 5 c comes to 0 and has WON. */
    private static final String MARKED = Lines.law(3, 8, 9, 1) + Lines.snow(5, 5, 2) + Lines.snow(6, 7, 2) + Lines.referee(0, 9)
        + Lines.left("a", 1, 5, 9, 0, 3) + Lines.right("b", 1, 9, 9, 0, 3) + Lines.right("c", 2, 1, 0, 0, 2)
        + Lines.block("w", "left", 1, 6, 9) + "at 0 a flat b;at 1 b high a;at 1 a goes;at 2 a high b;at 5 c goes;at 6 a makes";

    /** The GAME of MARKED behind so many TENTHS, in HOUR 6 from the third on. */
    private static SnowWalls marked(int tenths) {
        SnowWalls x = Check.told(MARKED);
        // w is hit; a HIT at 5 is MISSED (55 or more); a HIT at 9 is SEEN (below 19)
        x.start(Draws.seed(0, 89, 0, 89, 0, 70, 55, 99, 0, 69, 0, 70, 0, 18));
        for (int i = 0; i < tenths; i++) {
            pass(x);
        }
        return x;
    }

    private static void pass(SnowWalls x) {
        if (x.size(7) == 2) {
            x.hour(6);
        }
        x.tenth();
    }

    private static final int[] MARKED_BEHIND = {0, 1, 2, 6};

    /** Four MARKS of the GAME of MARKED, with one act SEEN and a TAPE. */
    private static SnowWalls fourMarks() {
        SnowWalls x = marked(0);
        for (int number = 0; number <= 3; number++) {
            while (x.size(7) < MARKED_BEHIND[number]) {
                pass(x);
            }
            Check.due("mark", x.mark(), number);
        }
        x.see(1);
        Check.feed(x, "snow");
        return x;
    }

    private static void marksOfAll() {
        Doc.says("19", "All is as by a MARK (all MARKS stay): true;");
        SnowWalls x = fourMarks();
        Check.due("over at the last MARK", x.over(), 1);
        Check.due("c has WON", x.winner(), 1);
        Check.due("b is out", x.player(1, 3), 1);
        Check.due("a block was hit", x.sum(2), 1);
        Check.due("a HIT was MISSED", x.sum(4), 1);
        wentBack(x, 3, 0, 2);
        wentBack(fourMarks(), 1, 1, 3, 0);
        // in another GAME: x, balls, thrown, out, strong, sums, SEED, HOUR, and who WON are those of the MARK
        x = fourMarks();
        x.start(9);
        wentBack(x, 3, 2);
        x = fourMarks();
        x.start(8);
        wentBack(x, 1, 3);
    }

    private static void wentBack(SnowWalls x, int... numbers) {
        for (int number : numbers) {
            x.match(-1);
            Check.due("back(" + number + ")", x.back(number), true);
            Check.due("trouble", x.trouble(), 0);
            Check.due("MARKS stay", x.size(10), 4);
            Check.due("SEEN stay", x.size(11), 1);
            Check.due("bytes stay", x.size(12), 20);
            Check.due("by MARK " + number, Sight.ofGame(x), Sight.ofGame(marked(MARKED_BEHIND[number])));
        }
    }

    private static void back() {
        Doc.says("19", "false: 1.");
        SnowWalls x = Check.told(LAW + SNOW + TWO);
        for (int marks = 0; marks <= 4; marks++) {
            for (int mark = -1; mark <= 5; mark++) {
                boolean there = mark >= 0 && mark < marks;
                Check.due("back(" + mark + ") of " + marks, x.back(mark), there);
                Check.due("trouble behind it", x.trouble(), there ? 0 : 1);
            }
            x.mark();
        }
        Calls.refusedBy("19");
    }

    private static final String LEAGUE = Lines.law(3, 8, 2, 0) + SNOW + Lines.snow(6, 0, 2) + Lines.left("a", 1, 9, 0, 0, 2)
        + Lines.right("b", 1, 15, 0, 0, 1) + "at 0 a flat b;at 0 b flat a";

    /** a's throw first: it wins at draws below 90 and 71; then b's, with what SEED is by then. */
    private static int winnerOf(int seed) {
        int bits = Draws.behind(seed, 1) % 100;
        int hit = Draws.behind(seed, 2) % 100;
        if (bits < 90 && hit < 71) {
            return 0;
        }
        int from = bits < 90 ? 2 : 1;
        return Draws.behind(seed, from + 1) % 100 < 90 && Draws.behind(seed, from + 2) % 100 < 71 ? 1 : 2;
    }

    private static void league() {
        Doc.says("III", "LEAGUE of n: GAMES from their beginning in this HOUR, the first with SEED as it is, the next with one more, and "
            + "so on (mod 65,537).");
        Doc.says("20", "How many GAMES of a LEAGUE of n (1 .. 60) a SIDE wins (2: neither).");
        for (int seed : new int[] {0, 1, 65476, 65477, 65478, 65500, 65535, 65536}) {
            for (int n : new int[] {1, 2, 3, 59, 60}) {
                SnowWalls x = Check.told(LEAGUE);
                x.start(seed);
                int[] due = new int[3];
                for (int i = 0; i < n; i++) {
                    due[winnerOf((seed + i) % 65537)]++;
                }
                for (int side = 0; side <= 2; side++) {
                    x.match(-1);
                    Check.due("wins(" + side + ", " + n + ") of " + seed, x.wins(side, n), due[side]);
                    Check.due("trouble", x.trouble(), 0);
                }
                Check.due("fair(" + n + ") of " + seed, x.fair(n), due[0] - due[1]);
                Check.due("SEED", x.size(8), seed);
            }
        }
    }

    private static void leagueBounds() {
        // behind a TENTH: from the beginning, with SEED as it is by then
        SnowWalls x = Check.told(LEAGUE);
        x.start(77);
        x.tenth();
        int seed = x.size(8);
        int due = 0;
        for (int i = 0; i < 60; i++) {
            due += winnerOf((seed + i) % 65537) == 0 ? 1 : 0;
        }
        Check.due("with SEED as it is by then", x.wins(0, 60), due);
        Check.due("TENTHS", x.size(7), 1);
        x.finish();
        seed = x.size(8);
        Check.due("behind the end", x.wins(winnerOf(seed), 1), 1);
        // in HOUR 6 nothing holds
        x.hour(6);
        Check.due("in this HOUR", x.wins(2, 60), 60);
        x.hour(5);
        Check.due("in this HOUR", x.wins(winnerOf(seed), 1), 1);
        // a, if b's throw doesn't HIT it, goes to 19; each GAME is WON or not on its own
        x = Check.told(LAW + SNOW + Lines.left("a", 1, 18, 0, 0, 0) + Lines.left("c", 0, 0, 0, 0, 0) + Lines.right("b", 1, 18, 9, 0, 1)
            + "at 0 b flat a;at 3 a goes");
        due = 0;
        for (int i = 0; i < 60; i++) {
            due += Draws.behind(i, 1) % 100 < 90 ? 0 : 1;
        }
        Check.due("WON by left, unless a is out", x.wins(0, 60), due);
        Check.due("one and one left", x.wins(2, 60), 60 - due);
        // of one SIDE alone
        x = Check.told(LAW + SNOW + Lines.right("a", 1, 9, 0, 0, 2));
        Check.due("of one SIDE", x.wins(1, 60), 60);
        Check.due("of one SIDE", x.fair(60), -60);
        Doc.says("20", "NONE: 1; 2.");
        Calls.refusedBy("20");
        Calls.leavesAll("20");
    }

    private static void fair() {
        Doc.says("21", "Those that left wins less those that right wins. -1,000: 1 (no MATCH); 2.");
        SnowWalls x = Check.told(LAW + SNOW + Lines.left("a", 1, 9, 0, 0, 2));
        x.match(-1);
        Check.due("left wins all", x.fair(60), 60);
        Check.due("trouble", x.trouble(), 0);
        Check.due("left wins one", x.fair(1), 1);
        x = Check.told(LAW + SNOW + Lines.right("a", 1, 9, 0, 0, 2));
        Check.due("right wins all", x.fair(60), -60);
        Check.due("right wins one", x.fair(1), -1);
        x = Check.told(LAW + SNOW + TWO);
        Check.due("neither", x.fair(60), 0);
        Calls.refusedBy("21");
        Calls.leavesAll("21");
    }

    private static void led() {
        Doc.says("44", "The i-th (0: the first) player that is out, by LINES.");
        // d, b and a are out, in this order; by LINES a, b, d
        StringBuilder text = new StringBuilder(LAW + SNOW);
        for (String name : new String[] {"a", "b", "c", "d"}) {
            text.append(Lines.left(name, 1, 9, 0, 0, 0));
        }
        text.append(Lines.right("z", 1, 9, 9, 0, 9)).append("at 0 z flat d;at 1 z flat b;at 2 z flat a");
        SnowWalls x = Check.told(text.toString());
        // no draw is lost: CHANCES are 100, 100 and 100
        x.start(Draws.seed(0, 89, 0, 99, 0, 89, 0, 99, 0, 89));
        int[][] due = {{}, {3}, {1, 3}, {0, 1, 3}};
        Doc.says("44", "NoSuchElementException if there is none such.");
        for (int[] out : due) {
            for (int i = 0; i < out.length; i++) {
                Check.due("led(" + i + ") of " + out.length, x.led(i), out[i]);
            }
            for (int none : new int[] {-1, out.length, out.length + 1, Integer.MIN_VALUE, Integer.MAX_VALUE}) {
                x.match(-1);
                Check.due("led(" + none + ") of " + out.length + " throws", Check.ledThrows(x, none), true);
                Check.due("trouble, which it leaves", x.trouble(), 2);
            }
            x.tenth();
        }
        SnowWalls y = Calls.State.MIDDLE.make();
        Check.ledThrows(y, -1);
        Check.ledThrows(y, 8);
        Check.due("all as it was", Sight.of(y), Sight.of(Calls.State.MIDDLE.make()));
        Check.due("without a MATCH", Check.ledThrows(new SnowWalls(), 0), true);
        // all of a SIDE, up to the eighth player
        StringBuilder eight = new StringBuilder(Lines.law(3, 8, 9, 0) + SNOW + Lines.right("z", 1, 9, 9, 0, 9));
        StringBuilder acts = new StringBuilder();
        for (int p = 0; p < 7; p++) {
            eight.append(Lines.left("p" + (char) ('a' + p), 1, 9, 9, 0, 0));
            acts.append(Lines.at(p, "z flat p" + (char) ('a' + p)));
        }
        x = Check.told(eight.toString() + acts);
        int seed = 0;
        do {
            x.start(seed++);
            x.finish();
        } while (x.left(0) > 0 && seed < 65537);
        for (int i = 0; i < 7; i++) {
            Check.due("led(" + i + ") of seven", x.led(i), i + 1);
        }
        Check.due("led(7) of seven throws", Check.ledThrows(x, 7), true);
    }

    private static void sizes() {
        Doc.says("45", "0 players, 1 blocks, 2 sites, 3 prints, 4 guesses, 5 what is told of tenths, 6 snows, 7 TENTHS that passed, 8 "
            + "SEED, 9 HOUR, 10 MARKS, "
            + "11 SEEN, 12 bytes of THE TAPE.");
        int[] due = {4, 2, 3, 2, 2, 8, 2, 2, -1, 5, 2, 2, 20};
        SnowWalls x = Calls.State.MIDDLE.make();
        for (int what = 0; what <= 12; what++) {
            if (what != 8) {
                Check.due("size(" + what + ")", x.size(what), due[what]);
            }
        }
        x.start(65536);
        Check.due("SEED", x.size(8), 65536);
        Check.due("bytes", x.feed(0, 0, 0, 0, 0), x.size(12));
        // the most of each
        String ahead = LAW + SNOW + TWO;
        String[] lines = {"player @ of left at 0,0 arm 0 dodge 0 balls 0;", "block @ of left at 0,0 strong 1;",
            "site @ of left at 0,0 takes 1;",
            "print of left at 0,0;", "guess @ weighs 1 flat 0 high 0;", "at 0 a makes;", "snow 9 wet 1 deep 1;"};
        int[] most = {8, 8, 6, 6, 4, 20, 5};
        for (int what = 0; what < lines.length; what++) {
            StringBuilder text = new StringBuilder(ahead);
            int told = what == 0 ? 2 : what == 6 ? 1 : 0;
            for (int many = told; many <= most[what]; many++) {
                x = Check.told(text.toString());
                Check.due("size(" + what + ") of " + many, x.size(what), many);
                for (int other = 0; other <= 6; other++) {
                    if (other != what) {
                        Check.due("size(" + other + ") beside it", x.size(other), other == 0 ? 2 : other == 6 ? 1 : 0);
                    }
                }
                text.append(lines[what].replace("@", "n" + (char) ('a' + many)));
            }
        }
    }

    private static void sizeBounds() {
        Doc.says("45", "NONE for others; 0 for what there isn't.");
        SnowWalls[] all = {new SnowWalls(), Calls.State.BARE.make(), Calls.State.FULL.make()};
        for (SnowWalls x : all) {
            for (int what : new int[] {-1, 13, 14, Integer.MIN_VALUE, Integer.MAX_VALUE}) {
                x.match(-1);
                Check.due("size(" + what + ")", x.size(what), -1);
                Check.due("trouble, which it leaves", x.trouble(), 2);
            }
        }
        for (int what = 0; what <= 12; what++) {
            Check.due("size(" + what + ") of nothing", new SnowWalls().size(what), 0);
        }
        for (int what : new int[] {1, 2, 3, 4, 5, 7, 8, 10, 11}) {
            Check.due("size(" + what + ") of what there isn't", Calls.State.BARE.make().size(what), 0);
        }
        SnowWalls x = Calls.State.MIDDLE.make();
        for (int what = -1; what <= 13; what++) {
            x.size(what);
        }
        Check.due("all as it was", Sight.of(x), Sight.of(Calls.State.MIDDLE.make()));
    }

    private static void trouble() {
        Doc.says("IV", "TROUBLE of the latest call that may be refused (those of which a number is told here): 0 it wasn't; 1 there is "
            + "none such; 2 a number; "
            + "3 no room; 4 a FAULT; 5 not so; 6 there is none.");
        Doc.says("46", "TROUBLE.");
        Check.due("of a new object", new SnowWalls().trouble(), 0);
        // each call that isn't refused takes it away, whichever it was
        for (Calls.Call call : Calls.answered()) {
            SnowWalls x = call.state.make();
            x.match(-1);
            Check.due("trouble", x.trouble(), 2);
            call.made(x);
            Check.due("trouble behind " + call.name, x.trouble(), 0);
            x.match(0);
            Check.due("trouble", x.trouble(), 4);
        }
        // those of which no number is told leave it, whichever it is
        SnowWalls x = Calls.State.FULL.make();
        leaves(x, 0);
        x.block(9);
        leaves(x, 1);
        x.wins(0, 61);
        leaves(x, 2);
        x.mark();
        leaves(x, 3);
        x.winner();
        leaves(x, 5);
        x.match(0);
        leaves(x, 4);
        x = Calls.State.BARE.make();
        x.learn();
        leaves(x, 6);
    }

    private static void leaves(SnowWalls x, int due) {
        if (due == 0) {
            x.over();
        }
        Check.due("trouble", x.trouble(), due);
        x.feed(0x20202020, 0, 0, 0, 0);
        Check.due("trouble behind feed", x.trouble(), due);
        x.fault();
        Check.due("trouble behind fault", x.trouble(), due);
        x.where();
        Check.due("trouble behind where", x.trouble(), due);
        Check.ledThrows(x, -1);
        Check.due("trouble behind led", x.trouble(), due);
        x.size(0);
        x.size(99);
        Check.due("trouble behind size", x.trouble(), due);
        Check.due("trouble behind trouble", x.trouble(), due);
    }

    /** Promise 3's refusals: what they leave. */
    private static void matchRefused() {
        Calls.refusedBy("3");
        for (Calls.State state : Calls.State.values()) {
            for (String text : new String[] {"?", "at 1 p", "referee 1 sees 1;referee", "snow 24", "print of left at 0,0;".repeat(7),
                "snow 1 wet 1 deep 1"}) {
                SnowWalls x = state.make();
                x.match(0);
                Check.due("a FAULT", Check.match(x, text), -1);
                Check.due("trouble", x.trouble(), 4);
                Check.due("THE TAPE is empty", x.size(12), 0);
                Check.due("the MATCH stays behind " + text, Sight.ofMatch(x), Sight.ofMatch(state.make()));
            }
        }
    }
}
