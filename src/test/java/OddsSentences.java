/** Term III's odds and promises 22 to 28, sentence by sentence, at their bounds. */
final class OddsSentences {
    private static final String LAW = Lines.law(3, 8, 6, 0);
    private static final String SNOWS = Lines.snow(5, 5, 2) + Lines.snow(6, 9, 2) + Lines.snow(7, 1, 2);

    private OddsSentences() {
    }

    static void all() {
        asTheGameIsNow();
        odds();
        pair();
        gain();
        dash();
        dashBounds();
        runners();
        chance();
        hidden();
        refusals();
    }

    private static void asTheGameIsNow() {
        Doc.says("III", "All as the GAME is now.");
        SnowWalls x = Check.told(Lines.law(3, 8, 9, 0) + SNOWS + Lines.left("a", 1, 5, 4, 2, 3) + Lines.left("c", 1, 3, 4, 2, 3)
            + Lines.right("b", 1, 9, 1, 3, 1) + Lines.right("d", 4, 19, 1, 9, 1) + Lines.block("w", "left", 1, 6, 1)
            + Lines.site("s", "left", 1, 7, 1) + "at 0 a flat d;at 1 a flat b;at 6 b goes;at 7 b flat a");
        x.start(Draws.seed(0, 89, 0, 89, 0, 89));
        Check.due("CHANCE flat", x.chance(0, 2, false), 95 - 16 + 20 - 18);
        Check.due("LEAST", x.least(0, 2), 70 - 12 + 16 - 24);
        Check.due("HIDDEN", x.hidden(0, 2), 0);
        Check.due("BUILD: w hides all", x.build(0, 9), 0);
        x.tenth();
        Check.due("thrown once: CHANCE flat", x.chance(0, 2, false), 95 - 16 + 20 - 18 - 3);
        Check.due("thrown once: ODDS high", x.odds(0, 2, true), 90 * (70 - 12 + 16 - 12 - 2));
        Check.due("thrown once: LEAST", x.least(0, 2), 70 - 12 + 16 - 24 - 2);
        x.tenth();
        Check.due("w has fallen", x.hidden(0, 2), -2);
        Check.due("BUILD then", x.build(0, 9), 1);
        for (int t = 2; t <= 6; t++) {
            x.tenth();
        }
        Check.due("b at 8: CHANCE flat", x.chance(0, 2, false), 95 - 12 + 20 - 18 - 6);
        x.hour(6);
        Check.due("in HOUR 6: ODDS", x.odds(0, 2, false), 20 * (95 - 12 + 20 - 18 - 6));
        x.start(0);
        Check.due("anew: ODDS in HOUR 6", x.odds(0, 2, false), 20 * (95 - 16 + 20 - 18));
        // no block, nor what is told of this TENTH, counts for CHANCES, ODDS and DUELS
        String two = LAW + SNOWS + Lines.left("a", 1, 5, 4, 2, 3) + Lines.right("b", 1, 9, 1, 3, 1);
        SnowWalls bare = Check.told(two);
        x = Check.told(two + Lines.block("w", "right", 1, 7, 9) + "at 0 b ducks;at 0 b goes;at 0 a makes;at 0 a flat b;at 0 a high b");
        for (boolean high : new boolean[] {false, true}) {
            Check.due("CHANCE behind a block", x.chance(0, 1, high), bare.chance(0, 1, high));
            Check.due("ODDS behind a block", x.odds(0, 1, high), bare.odds(0, 1, high));
        }
        Check.due("LEAST behind a block", x.least(0, 1), bare.least(0, 1));
        Check.due("MOST behind a block", x.most(0, 1), bare.most(0, 1));
        Check.due("MIX behind a block", x.mix(0, 1), bare.mix(0, 1));
        Check.due("what it is worth behind a block", x.rests(0, 1), bare.rests(0, 1));
        // players that are out have CHANCES all the same
        x = Check.told(LAW + SNOWS + Lines.left("a", 1, 5, 9, 2, 3) + Lines.right("b", 1, 6, 1, 0, 1) + Lines.right("c", 1, 6, 1, 0, 1)
            + "at 0 a flat b");
        x.start(Draws.seed(0, 89, 0, 89));
        x.tenth();
        Check.due("b is out", x.player(1, 3), 1);
        Check.due("CHANCE at one that is out", x.chance(0, 1, true), 100);
        Check.due("CHANCE of one that is out", x.chance(1, 0, true), 70 - 3 + 4 - 8);
    }

    private static void odds() {
        Doc.says("III", "ODDS of a throw of p at q: CHANCE (q stands) times HOLD, of 10,000.");
        Doc.says("24", "ODDS.");
        // CHANCES of 100 and 0; b ducks in this TENTH, which doesn't count
        SnowWalls x = Check.told(LAW + SNOWS + Lines.left("a", 0, 0, 9, 9, 3) + Lines.right("b", 0, 1, 0, 0, 1)
            + Lines.right("c", 4, 19, 0, 9, 1)
            + "at 0 b ducks");
        Check.due("100 of 90", x.odds(0, 1, false), 9000);
        Check.due("high, 100 of 90", x.odds(0, 1, true), 9000);
        Check.due("0 of 90", x.odds(2, 0, false), 0);
        Check.due("back", x.odds(1, 0, true), 90 * (70 - 3 - 36));
        x.hour(6);
        Check.due("100 of 20", x.odds(0, 1, false), 2000);
        x.hour(7);
        Check.due("100 of 0", x.odds(0, 1, false), 0);
        Doc.says("24", "NONE: 1 (likewise).");
        Calls.refusedBy("24");
        Calls.leavesAll("24");
    }

    private static SnowWalls pairOf(int armP, int armR, int dodge) {
        return Check.told(LAW + SNOWS + Lines.left("p", 0, 5, armP, 0, 1) + Lines.left("r", 1, 5, armR, 0, 1)
            + Lines.right("q", 0, 8, 0, dodge, 1) + Lines.right("t", 0, 18, 0, dodge, 1));
    }

    private static void pair() {
        Doc.says("III", "PAIR of p flat, r high at q: of 100,000,000: all less (10,000 less ODDS of p) times (10,000 less those of r), "
            + "dodge being 0 in both;");
        Doc.says("25", "PAIR.");
        SnowWalls x = pairOf(1, 2, 7);
        // p flat 95 - 12 + 5 = 88, r high 70 - 12 + 8 = 66, of 90
        Check.due("p flat, r high", x.pair(0, 1, 2), 100000000 - 2080 * 4060);
        // r flat 95 - 16 + 10 = 89, p high 70 - 9 + 4 = 65
        Check.due("r flat, p high", x.pair(1, 0, 2), 100000000 - 1990 * 4150);
        x.hour(6);
        Check.due("of 20", x.pair(0, 1, 2), 100000000 - 8240 * 8680);
        x.hour(7);
        Check.due("of 0", x.pair(0, 1, 2), 0);
        x = Check.told(LAW + SNOWS + Lines.left("p", 0, 5, 9, 0, 1) + Lines.left("r", 0, 5, 9, 0, 1) + Lines.right("q", 0, 5, 0, 9, 1));
        Check.due("of two that are sure", x.pair(0, 1, 2), 99000000);
        // neither ducking nor blocks count
        x = Check.told(LAW + SNOWS + Lines.left("p", 0, 5, 1, 0, 1) + Lines.left("r", 1, 5, 2, 0, 1) + Lines.right("q", 0, 8, 0, 7, 1)
            + Lines.block("w", "left", 0, 6, 9) + "at 0 q ducks");
        Check.due("behind a block", x.pair(0, 1, 2), 100000000 - 2080 * 4060);
        Doc.says("25", "NONE: 1 (p and r one, or one of them of the SIDE of q, too).");
        Calls.refusedBy("25");
        Calls.leavesAll("25");
    }

    private static void gain() {
        Doc.says("III", "GAIN: that less the same with dodge as it is.");
        Doc.says("26", "GAIN. NONE: 1.");
        for (int dodge = 0; dodge <= 9; dodge++) {
            SnowWalls x = pairOf(1, 2, dodge);
            int with = 100000000 - (10000 - 90 * (88 - 6 * dodge)) * (10000 - 90 * (66 - 4 * dodge));
            Check.due("dodge " + dodge, x.gain(0, 1, 2), x.pair(0, 1, 2) - with);
            Check.due("PAIR of dodge " + dodge, x.pair(0, 1, 2), 100000000 - 2080 * 4060);
        }
        // with dodge both CHANCES are 0
        SnowWalls x = Check.told(LAW + SNOWS + Lines.left("p", 0, 0, 0, 0, 1) + Lines.left("r", 0, 0, 0, 0, 1)
            + Lines.right("q", 4, 14, 0, 9, 1));
        Check.due("all of it", x.gain(0, 1, 2), 100000000 - (10000 - 90 * 23) * (10000 - 90 * 16));
        Calls.refusedBy("26");
        Calls.leavesAll("26");
    }

    /** The ways in which of so many, one throw behind the other, some still run. */
    private static long ways(int run, int throwsMany, int c) {
        if (run == 0) {
            return 0;
        }
        return throwsMany == 0 ? 1 : c * ways(run - 1, throwsMany - 1, c) + (100 - c) * ways(run, throwsMany - 1, c);
    }

    private static void dash() {
        Doc.says("III", "DASH: so many run, so many throws, each hits by c of a hundred one that still runs: of 100 to the throws the ways "
            + "in which "
            + "fewer are hit than run.");
        Doc.says("27", "DASH.");
        SnowWalls x = new SnowWalls();
        for (int run = 1; run <= 9; run++) {
            for (int many = 0; many <= 8; many++) {
                for (int c : new int[] {0, 1, 30, 50, 99, 100}) {
                    Check.due("dash(" + run + ", " + many + ", " + c + ")", x.dash(run, many, c), ways(run, many, c));
                }
            }
        }
    }

    private static void dashBounds() {
        Doc.says("27", "-1: 2 (run 1 .. 9, throws 0 .. 8, c 0 .. 100).");
        SnowWalls x = new SnowWalls();
        Check.due("the least of all", x.dash(1, 0, 0), 1);
        Check.due("no throws", x.dash(9, 0, 100), 1);
        Check.due("one sure throw at one", x.dash(1, 1, 100), 0);
        Check.due("one sure throw at two", x.dash(2, 1, 100), 100);
        Check.due("eight sure throws at eight", x.dash(8, 8, 100), 0);
        Check.due("eight sure throws at nine", x.dash(9, 8, 100), 10000000000000000L);
        Check.due("eight throws of c 0", x.dash(1, 8, 0), 10000000000000000L);
        Check.due("all but eight hits of eight", x.dash(8, 8, 99), 10000000000000000L - 99L * 99 * 99 * 99 * 99 * 99 * 99 * 99);
        Calls.refusedBy("27");
        Calls.leavesAll("27");
    }

    private static void runners() {
        Doc.says("28", "The fewest that must run so that DASH is w hundredths (0 .. 100) of all or more; -2 if 9 don't do.");
        for (int many = 0; many <= 8; many++) {
            for (int c : new int[] {0, 1, 30, 50, 99, 100}) {
                SnowWalls x = new SnowWalls();
                long all = 1;
                for (int i = 0; i < many; i++) {
                    all *= 100;
                }
                for (int w = 1; w <= 100; w++) {
                    int run = 1;
                    while (ways(run, many, c) * 100 < w * all) {
                        run++;
                    }
                    Check.due("runners(" + many + ", " + c + ", " + w + ")", x.runners(many, c, w), run);
                }
            }
        }
        SnowWalls x = new SnowWalls();
        Check.due("70 of a hundred", x.runners(1, 30, 70), 1);
        Check.due("71 of a hundred", x.runners(1, 30, 71), 2);
        Check.due("none at all: one that runs", x.runners(8, 100, 0), 1);
        Check.due("nine do at any rate", x.runners(8, 100, 100), 9);
        Doc.says("28", "NONE: 2.");
        Calls.refusedBy("28");
        Calls.leavesAll("28");
    }

    private static void chance() {
        Doc.says("22", "CHANCE (q stands).");
        SnowWalls x = Check.told(LAW + SNOWS + Lines.left("p", 0, 5, 1, 0, 1) + Lines.right("q", 0, 8, 0, 7, 1) + "at 0 q ducks");
        Check.due("told to duck it stands", x.chance(0, 1, true), 70 - 9 + 4 - 28);
        Check.due("flat at one told to duck", x.chance(0, 1, false), 95 - 12 + 5 - 42);
        x.tenth();
        Check.due("it stands again", x.chance(0, 1, true), 70 - 9 + 4 - 28);
        Doc.says("22", "NONE: 1 (p and q of one SIDE, too).");
        Calls.refusedBy("22");
        Calls.leavesAll("22");
    }

    private static void hidden() {
        Doc.says("23", "Which block HIDES q from p; -2 if none does.");
        StringBuilder text = new StringBuilder(LAW + SNOWS + Lines.left("p", 0, 5, 1, 0, 1) + Lines.right("q", 0, 14, 0, 7, 1));
        for (int b = 0; b < 8; b++) {
            text.append(Lines.block("b" + (char) ('a' + b), "left", 0, 6 + b, 1));
        }
        SnowWalls x = Check.told(text.toString());
        Check.due("the eighth block", x.hidden(0, 1), 7);
        Check.due("block 0", x.hidden(1, 0), 0);
        Check.due("trouble", x.trouble(), 0);
        x = Check.told(text.toString().replace("left at 0,", "left at 1,"));
        Check.due("none", x.hidden(0, 1), -2);
        Check.due("trouble of none", x.trouble(), 0);
        Doc.says("23", "NONE: 1 (likewise).");
        Calls.refusedBy("23");
        Calls.leavesAll("23");
    }

    /** Of all players up to the eighth. */
    private static void refusals() {
        StringBuilder text = new StringBuilder(LAW + SNOWS);
        for (int p = 0; p < 8; p++) {
            text.append(Lines.player("p" + (char) ('a' + p), p % 2 == 0 ? "left" : "right", 0, p, 1, 0, 1));
        }
        for (int p = -1; p <= 8; p++) {
            SnowWalls x = Check.told(text.toString());
            for (int q = -1; q <= 8; q++) {
                boolean due = p >= 0 && p <= 7 && q >= 0 && q <= 7 && (p + q) % 2 == 1;
                x.match(-1);
                Check.due("chance(" + p + ", " + q + ")", x.chance(p, q, false) != -1, due);
                Check.due("trouble behind it", x.trouble(), due ? 0 : 1);
                Check.due("odds(" + p + ", " + q + ")", x.odds(p, q, false) != -1, due);
                Check.due("hidden(" + p + ", " + q + ")", x.hidden(p, q) != -1, due);
            }
        }
        for (int p = -1; p <= 8; p++) {
            SnowWalls x = Check.told(text.toString());
            for (int r = -1; r <= 8; r++) {
                boolean due = p >= 0 && p <= 7 && r >= 0 && r <= 7 && p != r && p % 2 == 1 && r % 2 == 1;
                Check.due("pair(" + p + ", " + r + ", 6)", x.pair(p, r, 6) != -1, due);
                Check.due("gain(" + p + ", " + r + ", 6)", x.gain(p, r, 6) != -1, due);
                Check.due("trouble behind it", x.trouble(), due ? 0 : 1);
            }
        }
    }
}
