/** Term II (CHANCE, HIDDEN, the beginning of a GAME, and what is done in a TENTH), sentence by sentence, at its bounds. */
final class GameSentences {
    private static final String LAW = Lines.law(3, 8, 6, 0);
    private static final String SNOW = Lines.snow(5, 5, 2);

    private GameSentences() {
    }

    static void all() {
        hold();
        far();
        chanceFlat();
        chanceHigh();
        chanceOfThrown();
        hidden();
        nearest();
        beginning();
        tenths();
        ducking();
        paired();
        pairedThatDucks();
        pairedInOneTenth();
        pairedAsItBegins();
        byLines();
        makes();
        rolls();
        rollsNot();
        goes();
        goesInTheFirstHalf();
        won();
    }

    private static void hold() {
        Doc.says("II", "HOLD of a wet: 0, 1: 0; 2, 3: 40; 4 to 6: 90; 7, 8: 70; 9: 20.");
        int[] due = {0, 0, 40, 40, 90, 90, 90, 70, 70, 20};
        for (int wet = 0; wet <= 9; wet++) {
            SnowWalls x = Check.told(LAW + Lines.snow(0, wet, 0) + Lines.snow(23, 9 - wet, 9) + Lines.left("a", 1, 5, 1, 0, 0)
                + Lines.right("b", 1, 5, 0, 0, 0));
            Check.due("HOLD of wet " + wet, x.hold(0), due[wet]);
            Check.due("HOLD of wet " + (9 - wet), x.hold(23), due[9 - wet]);
            // CHANCE is 100
            Check.due("ODDS of wet " + wet, x.odds(0, 1, false), 100 * due[wet]);
        }
    }

    private static SnowWalls two(int laneP, int xP, int arm, int laneQ, int xQ, int dodge) {
        return Check.told(LAW + SNOW + Lines.left("p", laneP, xP, arm, 0, 0) + Lines.right("q", laneQ, xQ, 0, dodge, 0));
    }

    private static void far() {
        Doc.says("II", "FAR of two players: how far their lanes and their x are apart, together.");
        int[][] spots = {{0, 0, 0, 0, 0}, {4, 19, 4, 19, 0}, {0, 0, 4, 19, 23}, {4, 19, 0, 0, 23}, {0, 19, 4, 0, 23}, {4, 0, 0, 19, 23},
            {2, 7, 3, 7, 1}, {3, 7, 2, 7, 1}, {2, 7, 2, 8, 1}, {2, 8, 2, 7, 1}, {1, 4, 2, 9, 6}, {2, 4, 1, 9, 6}};
        for (int[] s : spots) {
            SnowWalls x = two(s[0], s[1], 0, s[2], s[3], 0);
            String of = s[0] + "," + s[1] + " and " + s[2] + "," + s[3];
            Check.due("flat, " + of, x.chance(0, 1, false), 95 - 4 * s[4]);
            Check.due("flat back, " + of, x.chance(1, 0, false), 95 - 4 * s[4]);
            Check.due("high, " + of, x.chance(0, 1, true), 70 - 3 * s[4]);
            Check.due("high back, " + of, x.chance(1, 0, true), 70 - 3 * s[4]);
        }
    }

    /** CHANCE of p in lane 0 at 0 at q so FAR away. */
    private static int chance(int far, int arm, int dodge, boolean high) {
        int lane = Math.max(0, far - 19);
        return two(0, 0, arm, lane, far - lane, dodge).chance(0, 1, high);
    }

    private static void chanceFlat() {
        Doc.says("II", "CHANCE of p at q, of a hundred (0 and 100 at most): flat 95 less 4 times FAR, 5 times arm more, 6 times dodge of q "
            + "less,");
        Check.due("nothing more or less", chance(0, 0, 0, false), 95);
        Check.due("FAR 1", chance(1, 0, 0, false), 91);
        Check.due("dodge 1", chance(0, 0, 1, false), 89);
        Check.due("dodge 9", chance(0, 0, 9, false), 41);
        Check.due("FAR 10, arm 1", chance(10, 1, 0, false), 60);
        Check.due("FAR 20, arm 9", chance(20, 9, 0, false), 60);
        // 95 + 10 - 6, 95 + 5, 95 + 10 - 4, 95 + 45
        Check.due("99", chance(0, 2, 1, false), 99);
        Check.due("100", chance(0, 1, 0, false), 100);
        Check.due("101 is 100", chance(1, 2, 0, false), 100);
        Check.due("140 is 100", chance(0, 9, 0, false), 100);
        // 95 - 92 + 5 a - 6 a
        Check.due("1", chance(23, 2, 2, false), 1);
        Check.due("0", chance(23, 3, 3, false), 0);
        Check.due("-1 is 0", chance(23, 4, 4, false), 0);
        Check.due("-51 is 0", chance(23, 0, 9, false), 0);
        // arm of p and dodge of q, not of the others
        SnowWalls x = Check.told(LAW + SNOW + Lines.left("p", 0, 0, 2, 7, 0) + Lines.right("q", 0, 10, 8, 3, 0));
        Check.due("p at q", x.chance(0, 1, false), 95 - 40 + 10 - 18);
        Check.due("q at p", x.chance(1, 0, false), 95 - 40 + 40 - 42);
    }

    private static void chanceHigh() {
        Doc.says("II", "high 70, 3 times FAR less, 4 times arm more, 4 times dodge less,");
        Check.due("nothing more or less", chance(0, 0, 0, true), 70);
        Check.due("FAR 1", chance(1, 0, 0, true), 67);
        Check.due("arm 1", chance(0, 1, 0, true), 74);
        Check.due("dodge 1", chance(0, 0, 1, true), 66);
        Check.due("dodge 9", chance(0, 0, 9, true), 34);
        // 70 + 4 (a - d) - 3 FAR
        Check.due("99", chance(1, 8, 0, true), 99);
        Check.due("100", chance(2, 9, 0, true), 100);
        Check.due("102 is 100", chance(0, 8, 0, true), 100);
        Check.due("103 is 100", chance(1, 9, 0, true), 100);
        Check.due("1", chance(23, 5, 5, true), 1);
        Check.due("0", chance(22, 4, 5, true), 0);
        Check.due("-1 is 0", chance(21, 0, 2, true), 0);
        Check.due("-35 is 0", chance(23, 0, 9, true), 0);
        SnowWalls x = Check.told(LAW + SNOW + Lines.left("p", 0, 0, 2, 7, 0) + Lines.right("q", 0, 10, 8, 3, 0));
        Check.due("p at q", x.chance(0, 1, true), 70 - 30 + 8 - 12);
        Check.due("q at p", x.chance(1, 0, true), 70 - 30 + 32 - 28);
    }

    private static void chanceOfThrown() {
        Doc.says("II", "3 times how often p has thrown less;");
        Doc.says("II", "2 times thrown less,");
        // a throws nine balls away, one a TENTH, at c, whom it never hits
        StringBuilder text = new StringBuilder(Lines.law(3, 8, 99, 0) + SNOW + Lines.left("a", 0, 0, 0, 0, 9)
            + Lines.right("b", 0, 10, 0, 0, 1) + Lines.right("c", 4, 19, 0, 9, 1));
        for (int t = 0; t < 9; t++) {
            text.append(Lines.at(t, "a flat c"));
        }
        SnowWalls x = Check.told(text.toString());
        for (int often = 0; often <= 9; often++) {
            Check.due("thrown", x.player(0, 2), often);
            Check.due("flat, thrown " + often, x.chance(0, 1, false), 95 - 40 - 3 * often);
            Check.due("high, thrown " + often, x.chance(0, 1, true), 70 - 30 - 2 * often);
            Check.due("flat at it, thrown " + often, x.chance(1, 0, false), 95 - 40);
            Check.due("high at it, thrown " + often, x.chance(1, 0, true), 70 - 30);
            x.tenth();
        }
        Doc.says("II", "15 more if q ducks.");
        // high at FAR 23 and dodge 4, arm 9: 70 - 69 + 36 - 16 = 21; 36 as b ducks
        String at = LAW + SNOW + Lines.left("a", 0, 0, 9, 0, 1) + Lines.right("b", 4, 19, 0, 4, 0);
        for (int draw : new int[] {20, 21, 35, 36}) {
            x = Check.told(at + "at 0 a high b");
            x.start(Draws.seed(0, 89, draw, draw));
            Check.due("CHANCE as it stands", x.chance(0, 1, true), 21);
            x.tenth();
            Check.due("standing, a draw of " + draw, x.sum(3), draw < 21 ? 1 : 0);
            x = Check.told(at + "at 0 b ducks;at 0 a high b");
            x.start(Draws.seed(0, 89, draw, draw));
            x.tenth();
            Check.due("ducking, a draw of " + draw, x.sum(3), draw < 36 ? 1 : 0);
            Check.due("CHANCE as it stands", x.chance(0, 1, true), 19);
        }
    }

    private static int hiddenBy(int lane, int at, int laneP, int xP, int laneQ, int xQ) {
        return Check.told(LAW + SNOW + Lines.left("p", laneP, xP, 0, 0, 0) + Lines.right("q", laneQ, xQ, 0, 0, 0)
            + Lines.block("w", "left", lane, at, 1)).hidden(0, 1);
    }

    private static void hidden() {
        Doc.says("II", "HIDDEN: a flat throw if a block that stands is in the lane of q and strictly between both x;");
        for (int at = 3; at <= 10; at++) {
            boolean between = at > 4 && at < 9;
            Check.due("from 4 to 9 by one at " + at, hiddenBy(2, at, 2, 4, 2, 9), between ? 0 : -2);
            Check.due("from 9 to 4 by one at " + at, hiddenBy(2, at, 2, 9, 2, 4), between ? 0 : -2);
            Check.due("from 4 to 9, other lanes, by one at " + at, hiddenBy(3, at, 1, 4, 3, 9), between ? 0 : -2);
            Check.due("in the lane of p, at " + at, hiddenBy(1, at, 1, 4, 3, 9), -2);
            Check.due("in a lane between, at " + at, hiddenBy(2, at, 1, 4, 3, 9), -2);
            Check.due("none between 4 and 5", hiddenBy(2, at, 2, 4, 2, 5), -2);
            Check.due("none between 7 and 7", hiddenBy(2, at, 1, 7, 2, 7), -2);
        }
        for (int at = 0; at <= 19; at++) {
            boolean between = at > 0 && at < 19;
            Check.due("from 0 to 19 by one at " + at, hiddenBy(4, at, 0, 0, 4, 19), between ? 0 : -2);
            Check.due("from 19 to 0 by one at " + at, hiddenBy(0, at, 4, 19, 0, 0), between ? 0 : -2);
        }
        // a block that stands: hit once it does no more
        String text = LAW + SNOW + Lines.left("a", 0, 4, 9, 0, 9) + Lines.right("b", 0, 9, 0, 0, 0);
        for (int strong = 1; strong <= 3; strong++) {
            SnowWalls x = Check.told(text + Lines.block("w", "right", 0, 7, strong) + "at 0 a flat b;at 0 a flat b;at 0 a flat b");
            x.start(Draws.seed(0, 89, 0, 89, 0, 89));
            x.tenth();
            Check.due("strong " + strong + ", hit blocks", x.sum(2), strong);
            Check.due("strong " + strong + ", stands", x.block(0), 0);
            Check.due("strong " + strong + ", hides", x.hidden(0, 1), -2);
        }
    }

    private static void nearest() {
        Doc.says("II", "by the one nearest to q (of like ones the first).");
        String text = LAW + SNOW + Lines.left("a", 0, 4, 9, 0, 9) + Lines.right("b", 0, 9, 0, 0, 9)
            + Lines.block("u", "left", 0, 5, 1) + Lines.block("v", "left", 0, 8, 1) + Lines.block("w", "right", 0, 8, 9)
            + Lines.block("y", "right", 0, 5, 1) + Lines.block("z", "right", 0, 7, 1);
        SnowWalls x = Check.told(text + "at 0 a flat b;at 1 b flat a");
        x.start(Draws.seed(0, 89, 0, 89));
        Check.due("nearest to b, the first", x.hidden(0, 1), 1);
        Check.due("nearest to a, the first", x.hidden(1, 0), 0);
        x.tenth();
        Check.due("it stands no more", x.block(1), 0);
        Check.due("the next that stands", x.hidden(0, 1), 2);
        x.tenth();
        Check.due("it stands no more", x.block(0), 0);
        Check.due("the next that stands, the other way", x.hidden(1, 0), 3);
    }

    private static void beginning() {
        Doc.says("II", "A GAME, from what is told on (nobody out, nothing thrown), in an HOUR (at first that of the first snow).");
        String text = LAW + Lines.snow(23, 5, 2) + Lines.snow(0, 8, 2) + Lines.left("a", 0, 4, 9, 0, 9) + Lines.right("b", 4, 9, 0, 9, 0)
            + Lines.block("w", "left", 0, 5, 9);
        SnowWalls x = Check.told(text);
        Check.due("HOUR", x.size(9), 23);
        for (int again = 0; again < 2; again++) {
            int[][] due = {{4, 9, 0, 0}, {9, 0, 0, 0}};
            for (int p = 0; p < 2; p++) {
                for (int what = 0; what <= 3; what++) {
                    Check.due("player(" + p + ", " + what + ")", x.player(p, what), due[p][what]);
                }
            }
            Check.due("strong", x.block(0), 9);
            Check.due("nobody out", Check.ledThrows(x, 0), true);
            for (int what = 0; what <= 4; what++) {
                Check.due("sum(" + what + ")", x.sum(what), 0);
            }
            x.start(0);
        }
        x = Check.told(LAW + Lines.snow(0, 5, 2) + Lines.snow(23, 8, 2) + Lines.left("a", 0, 4, 9, 0, 9));
        Check.due("HOUR 0", x.size(9), 0);
    }

    private static void tenths() {
        Doc.says("II", "A TENTH t (0, 1, ..):");
        SnowWalls x = Check.told(Lines.law(9, 8, 4, 0) + SNOW + Lines.left("a", 0, 4, 9, 0, 0) + Lines.right("b", 4, 9, 0, 9, 0)
            + Lines.at(2, "a makes") + Lines.at(0, "a makes") + Lines.at(0, "a makes") + Lines.at(4, "a makes") + Lines.at(3, "b makes"));
        int[] a = {0, 2, 2, 3, 3};
        for (int passed = 0; passed <= 4; passed++) {
            Check.due("balls behind " + passed, x.player(0, 1), a[passed]);
            Check.due("balls of b behind " + passed, x.player(1, 1), passed == 4 ? 1 : 0);
            Check.due("TENTHS", x.size(7), passed);
            x.tenth();
        }
    }

    private static void ducking() {
        Doc.says("II", "those that are told to duck in it do.");
        String text = LAW + SNOW + Lines.left("a", 0, 4, 9, 0, 9) + Lines.right("b", 0, 5, 9, 0, 9);
        int seed = Draws.seed(0, 89, 0, 89, 0, 89);
        for (String acts : new String[] {"at 0 b ducks;at 0 a flat b", "at 0 a flat b;at 0 b ducks",
            "at 0 b ducks;at 0 b ducks;at 0 a flat b"}) {
            SnowWalls x = Check.told(text + acts);
            x.start(seed);
            x.tenth();
            Check.due("it ducks: " + acts, x.sum(3), 0);
            Check.due("thrown all the same: " + acts, x.player(0, 2), 1);
        }
        for (String acts : new String[] {"at 1 b ducks;at 0 a flat b", "at 0 a ducks;at 0 a flat b"}) {
            SnowWalls x = Check.told(text + acts);
            x.start(seed);
            x.tenth();
            Check.due("it doesn't duck: " + acts, x.sum(3), 1);
        }
        SnowWalls x = Check.told(text + "at 0 b ducks;at 1 a flat b");
        x.start(seed);
        x.tenth();
        x.tenth();
        Check.due("it ducks no more", x.sum(3), 1);
        Doc.says("II", "ducks: nothing more.");
        x = Check.told(text + "at 0 b ducks");
        SnowWalls untold = Check.told(text + "at 5 b ducks");
        x.tenth();
        untold.tenth();
        Check.due("ducking alone changes nothing", Sight.of(x), Sight.of(untold));
        x = Check.told(text + "at 0 b ducks;at 0 b flat a");
        x.start(seed);
        x.tenth();
        Check.due("one that ducks throws", x.sum(3), 1);
    }

    // b's dodge 9 leaves a flat 95 - 16 - 54 = 25 and a high 70 - 12 - 36 = 22; PAIRED they are 79 and 58
    private static final String PAIR = LAW + SNOW + Lines.left("a", 1, 5, 0, 9, 1) + Lines.left("c", 1, 5, 0, 9, 1)
        + Lines.right("b", 1, 9, 0, 9, 1) + Lines.right("d", 1, 9, 0, 9, 1) + Lines.right("e", 4, 19, 0, 9, 1);

    /** Whether the first throw of TENTH 0, at b, is PAIRED; what is thrown behind it falls to bits. */
    private static void paired(String acts, boolean high, boolean due) {
        int alone = high ? 22 : 25;
        int both = high ? 58 : 79;
        for (int draw : new int[] {alone - 1, alone, both - 1, both}) {
            SnowWalls x = Check.told(PAIR + acts);
            x.start(Draws.seed(0, 89, draw, draw, 90, 99));
            x.tenth();
            Check.due("HIT by a draw of " + draw + ": " + acts, x.player(2, 3) == 1, draw < (due ? both : alone));
        }
    }

    private static void paired() {
        Doc.says("II", "PAIRED is a player at whom in it some of the other SIDE that aren't out and have a ball (as it begins) are told to "
            + "throw flat, "
            + "and some high: for throws at it dodge counts 0.");
        paired("at 0 a flat b", false, false);
        paired("at 0 a high b", true, false);
        paired("at 0 a flat b;at 0 c high b", false, true);
        paired("at 0 a high b;at 0 c flat b", true, true);
        paired("at 0 a flat b;at 0 c flat b", false, false);
        paired("at 0 a high b;at 0 c high b", true, false);
        paired("at 0 a high b;at 0 a flat b", true, true);
        // told of another TENTH, at another one, or by its own SIDE
        paired("at 0 a flat b;at 1 c high b", false, false);
        paired("at 0 a flat b;at 0 c high d", false, false);
        paired("at 0 a flat b;at 0 d high b", false, false);
        paired("at 0 a flat b;at 0 b high b", false, false);
        paired("at 0 a flat b;at 0 b high c", false, false);
        // a third one's throw is at one that is PAIRED, too
        String three = PAIR.replace(Lines.right("e", 4, 19, 0, 9, 1), Lines.left("e", 1, 5, 0, 9, 1));
        SnowWalls x = Check.told(three + "at 0 a flat b;at 0 c high b;at 0 e flat b");
        // a and c fall to bits
        x.start(Draws.seed(90, 99, 90, 99, 0, 89, 70, 78));
        x.tenth();
        Check.due("thrown", x.sum(0), 3);
        Check.due("fell to bits", x.sum(1), 2);
        Check.due("a third throw at one that is PAIRED", x.player(2, 3), 1);
        // not in the TENTH behind it
        x = Check.told(three + "at 0 a flat b;at 0 c high b;at 1 e flat b");
        x.start(Draws.seed(90, 99, 90, 99, 0, 89, 70, 78));
        x.tenth();
        x.tenth();
        Check.due("thrown", x.sum(0), 3);
        Check.due("not PAIRED in the next TENTH", x.player(2, 3), 0);
    }

    /** One that is PAIRED and ducks: flat does nothing to it, high HITS it below 70 less 12, and 15 more. */
    private static void pairedThatDucks() {
        for (int draw : new int[] {72, 73}) {
            SnowWalls x = Check.told(PAIR + "at 0 b ducks;at 0 a flat b;at 0 c high b");
            x.start(Draws.seed(0, 89, 0, 89, draw, draw));
            x.tenth();
            Check.due("flat at one that is PAIRED and ducks", x.player(0, 2), 1);
            Check.due("high at one that is PAIRED and ducks, a draw of " + draw, x.player(2, 3), draw < 73 ? 1 : 0);
        }
    }

    /** What was told of the TENTH before pairs nobody: a's throw falls to bits, and c's is alone. */
    private static void pairedInOneTenth() {
        for (boolean high : new boolean[] {false, true}) {
            String first = high ? "flat" : "high";
            String second = high ? "high" : "flat";
            int alone = high ? 22 : 25;
            for (int draw : new int[] {alone - 1, alone, high ? 57 : 78}) {
                SnowWalls x = Check.told(PAIR + Lines.at(0, "a " + first + " b") + Lines.at(1, "c " + second + " b"));
                x.start(Draws.seed(90, 99, 0, 89, draw, draw));
                x.tenth();
                x.tenth();
                Check.due(second + " behind " + first + ", a draw of " + draw, x.player(2, 3) == 1, draw < alone);
            }
        }
    }

    private static void pairedAsItBegins() {
        String bare = PAIR.replace(Lines.left("c", 1, 5, 0, 9, 1), Lines.left("c", 1, 5, 0, 9, 0));
        // c has no ball, or none as the TENTH begins
        for (String acts : new String[] {"at 0 a flat b;at 0 c high b", "at 0 c makes;at 0 a flat b;at 0 c high b"}) {
            SnowWalls x = Check.told(bare + acts);
            x.start(Draws.seed(0, 89, 25, 78, 90, 99));
            x.tenth();
            Check.due("no ball as it begins: " + acts, x.player(2, 3), 0);
        }
        // c has one as the TENTH begins, which it makes or is rolled in the TENTH before
        SnowWalls x = Check.told(bare + "at 0 c makes;at 1 a flat b;at 1 c high b");
        x.start(Draws.seed(0, 89, 25, 78, 90, 99));
        x.tenth();
        x.tenth();
        Check.due("a ball as it begins", x.player(2, 3), 1);
        // c has one as it begins, and gives it away in the very TENTH
        x = Check.told(PAIR + "at 0 c rolls a;at 0 a flat b;at 0 c high b");
        x.start(Draws.seed(0, 89, 25, 78, 90, 99));
        x.tenth();
        Check.due("a ball as it begins, rolled away", x.player(2, 3), 1);
        // c, out in the TENTH before, isn't told any more; out in the very TENTH it is
        String shot = PAIR.replace(Lines.right("d", 1, 9, 0, 9, 1), Lines.right("d", 1, 5, 9, 9, 1));
        x = Check.told(shot + "at 0 d flat c;at 1 a flat b;at 1 c high b");
        x.start(Draws.seed(0, 89, 0, 40, 0, 89, 25, 78));
        x.tenth();
        Check.due("c is out", x.player(1, 3), 1);
        x.tenth();
        Check.due("one that is out pairs nobody", x.player(2, 3), 0);
        Check.due("thrown", x.sum(0), 2);
        x = Check.told(shot + "at 0 d flat c;at 0 a flat b;at 0 c high b");
        x.start(Draws.seed(0, 89, 0, 40, 0, 89, 25, 78));
        x.tenth();
        Check.due("c is out", x.player(1, 3), 1);
        Check.due("one that was in as it began does", x.player(2, 3), 1);
    }

    private static void byLines() {
        Doc.says("II", "Then what is told for it, by LINES;");
        String text = LAW + SNOW + Lines.left("a", 0, 4, 9, 0, 0) + Lines.right("b", 0, 5, 9, 0, 2);
        int seed = Draws.seed(0, 89, 0, 89);
        SnowWalls x = Check.told(text + "at 0 a makes;at 0 a flat b");
        x.start(seed);
        x.tenth();
        Check.due("makes, then throws", x.sum(3), 1);
        x = Check.told(text + "at 0 a flat b;at 0 a makes");
        x.start(seed);
        x.tenth();
        Check.due("throws nothing, then makes", x.sum(0), 0);
        Check.due("throws nothing, then makes", x.player(0, 1), 1);
        // by LINES, not by players
        x = Check.told(text + "at 1 a makes;at 0 b flat a;at 0 a makes");
        x.start(seed);
        x.tenth();
        Doc.says("II", "of players that are out by then nothing;");
        Check.due("a is out", x.player(0, 3), 1);
        Check.due("out in the very TENTH", x.player(0, 1), 0);
        x = Check.told(text + Lines.left("c", 4, 0, 0, 0, 0) + "at 0 a makes;at 0 b flat a;at 1 a makes;at 1 a goes;at 1 a rolls c;"
            + "at 1 a flat b;at 1 a high b");
        x.start(seed);
        x.tenth();
        x.tenth();
        Check.due("a is out", x.player(0, 3), 1);
        Check.due("ahead of it it makes", x.player(0, 1), 1);
        Check.due("it goes nowhere", x.player(0, 0), 4);
        Check.due("it throws nothing", x.player(0, 2), 0);
        Check.due("it rolls nothing", x.player(2, 1), 0);
    }

    private static void makes() {
        Doc.says("II", "makes: a ball more, if HOLD and deep aren't 0, and carry allows.");
        for (int carry : new int[] {1, 3, 9}) {
            for (int balls = 0; balls <= 9; balls++) {
                SnowWalls x = Check.told(Lines.law(carry, 8, 9, 0) + SNOW + Lines.left("a", 0, 4, 0, 0, balls) + "at 0 a makes");
                x.tenth();
                Check.due("carry " + carry + ", balls " + balls, x.player(0, 1), balls < carry ? balls + 1 : balls);
            }
        }
        for (int wet = 0; wet <= 9; wet++) {
            for (int deep : new int[] {0, 1, 9}) {
                SnowWalls x = Check.told(LAW + Lines.snow(5, wet, deep) + Lines.left("a", 0, 4, 0, 0, 0) + "at 0 a makes");
                x.tenth();
                Check.due("wet " + wet + ", deep " + deep, x.player(0, 1), wet > 1 && deep > 0 ? 1 : 0);
                Check.due("no draw", x.size(8), 0);
            }
        }
        // of the snow in this HOUR
        SnowWalls x = Check.told(LAW + Lines.snow(5, 5, 0) + Lines.snow(6, 5, 1) + Lines.left("a", 0, 4, 0, 0, 0)
            + "at 0 a makes;at 1 a makes");
        x.hour(6);
        x.tenth();
        Check.due("HOUR 6", x.player(0, 1), 1);
        x.hour(5);
        x.tenth();
        Check.due("HOUR 5", x.player(0, 1), 1);
    }

    private static void rolled(String text, int a, int b) {
        SnowWalls x = Check.told(text);
        x.tenth();
        Check.due("a's balls: " + text, x.player(0, 1), a);
        Check.due("b's balls: " + text, x.player(1, 1), b);
        Check.due("thrown: " + text, x.sum(0), 0);
        Check.due("no draw: " + text, x.size(8), 0);
    }

    private static void rolls() {
        Doc.says("II", "rolls: a ball goes to the other one, if it isn't itself, there is one, the other is of the same SIDE and not out, "
            + "and carry allows.");
        for (String side : new String[] {"left", "right"}) {
            for (int carry : new int[] {1, 3, 9}) {
                for (int balls = 0; balls <= 9; balls++) {
                    String law = Lines.law(carry, 8, 9, 0) + SNOW;
                    boolean goes = balls < carry;
                    rolled(law + Lines.player("a", side, 0, 0, 0, 0, 1) + Lines.player("b", side, 4, 19, 0, 0, balls) + "at 0 a rolls b",
                        goes ? 0 : 1, goes ? balls + 1 : balls);
                    rolled(law + Lines.player("a", side, 0, 0, 0, 0, 0) + Lines.player("b", side, 4, 19, 0, 0, balls) + "at 0 a rolls b",
                        0, balls);
                }
            }
        }
        String law = Lines.law(3, 8, 9, 0) + SNOW;
        // one that has more than it may carry rolls them away
        rolled(law + Lines.left("a", 0, 0, 0, 0, 9) + Lines.left("b", 4, 19, 0, 0, 2) + "at 0 a rolls b;at 0 a rolls b", 8, 3);
        rolled(law + Lines.left("a", 0, 0, 0, 0, 2) + Lines.left("b", 4, 19, 0, 0, 0) + "at 0 a rolls b;at 0 a rolls b;at 0 a rolls b", 0,
            2);
        rolled(law + Lines.left("a", 0, 0, 0, 0, 2) + Lines.left("b", 4, 19, 0, 0, 0) + "at 0 a rolls b;at 0 b rolls a", 2, 0);
    }

    private static void rollsNot() {
        String law = Lines.law(3, 8, 9, 0) + SNOW;
        rolled(law + Lines.left("a", 0, 0, 0, 0, 2) + Lines.left("b", 4, 19, 0, 0, 1) + "at 0 a rolls a", 2, 1);
        rolled(law + Lines.left("a", 0, 0, 0, 0, 2) + Lines.right("b", 4, 19, 0, 0, 1) + "at 0 a rolls b", 2, 1);
        rolled(law + Lines.right("a", 0, 0, 0, 0, 2) + Lines.left("b", 4, 19, 0, 0, 1) + "at 0 a rolls b", 2, 1);
        // to one that is out in the TENTH before, or in this one
        for (int t = 0; t <= 1; t++) {
            SnowWalls x = Check.told(law + Lines.left("a", 0, 0, 0, 0, 2) + Lines.left("b", 4, 19, 0, 0, 1)
                + Lines.right("c", 4, 19, 9, 0, 1) + "at 0 c flat b;" + Lines.at(t, "a rolls b"));
            x.start(Draws.seed(0, 89));
            x.tenth();
            x.tenth();
            Check.due("b is out", x.player(1, 3), 1);
            Check.due("none to one that is out", x.player(0, 1), 2);
            Check.due("none to one that is out", x.player(1, 1), 1);
        }
        SnowWalls x = Check.told(law + Lines.left("a", 0, 0, 0, 0, 2) + Lines.left("b", 4, 19, 0, 0, 1)
            + Lines.right("c", 4, 19, 9, 0, 1) + "at 0 a rolls b;at 0 c flat b");
        x.start(Draws.seed(0, 89));
        x.tenth();
        Check.due("ahead of its being out", x.player(1, 1), 2);
    }

    private static int goneTo(int line, int tenths, int t, String side, int from) {
        SnowWalls x = Check.told(Lines.law(3, line, tenths, 0) + SNOW + Lines.player("a", side, 2, from, 0, 0, 0)
            + Lines.player("b", side.equals("left") ? "right" : "left", 2, 10, 0, 0, 0) + Lines.at(t, "a goes"));
        for (int i = 0; i <= t; i++) {
            x.tenth();
        }
        return x.player(0, 0);
    }

    private static void goes() {
        Doc.says("II", "goes: x one more (left), or less (right); not beyond 0 .. 19;");
        // in the second half, whatever the line
        for (int line : new int[] {0, 5, 10}) {
            for (int from = 0; from <= 19; from++) {
                Check.due("left from " + from, goneTo(line, 2, 1, "left", from), from < 19 ? from + 1 : 19);
                Check.due("right from " + from, goneTo(line, 2, 1, "right", from), from > 0 ? from - 1 : 0);
            }
        }
        SnowWalls x = Check.told(Lines.law(3, 10, 2, 0) + SNOW + Lines.left("a", 2, 0, 0, 0, 0) + Lines.right("b", 2, 19, 0, 0, 0)
            + Lines.at(0, "a goes").repeat(10) + Lines.at(0, "b goes").repeat(10));
        x.tenth();
        Check.due("ten at once", x.player(0, 0), 10);
        Check.due("ten at once", x.player(1, 0), 9);
        Check.due("no draw", x.size(8), 0);
    }

    private static void goesInTheFirstHalf() {
        Doc.says("II", "while twice t is below tenths not beyond line (left), or 19 less line (right).");
        for (int line : new int[] {0, 1, 5, 9, 10}) {
            for (int from = 0; from <= 19; from++) {
                Check.due("line " + line + ", left from " + from, goneTo(line, 1, 0, "left", from), from < line ? from + 1 : from);
                Check.due("line " + line + ", right from " + from, goneTo(line, 1, 0, "right", from),
                    from > 19 - line ? from - 1 : from);
            }
        }
        // which TENTH is the first that is free
        int[][] halves = {{2, 1}, {3, 2}, {4, 2}, {5, 3}, {6, 3}, {98, 49}, {99, 50}};
        for (int[] half : halves) {
            Check.due("t 0 of " + half[0], goneTo(5, half[0], 0, "left", 5), 5);
            Check.due("ahead of half of " + half[0], goneTo(5, half[0], half[1] - 1, "left", 5), 5);
            Check.due("half of " + half[0], goneTo(5, half[0], half[1], "left", 5), 6);
            Check.due("right, ahead of half of " + half[0], goneTo(5, half[0], half[1] - 1, "right", 14), 14);
            Check.due("right, half of " + half[0], goneTo(5, half[0], half[1], "right", 14), 13);
        }
    }

    private static void won() {
        Doc.says("II", "Come to 19 (left) or 0 (right) so, its SIDE has WON.");
        String[] sides = {"left", "right"};
        for (int side = 0; side <= 1; side++) {
            int end = side == 0 ? 19 : 0;
            int step = side == 0 ? 1 : -1;
            for (int off = 0; off <= 2; off++) {
                SnowWalls x = Check.told(Lines.law(3, 8, 9, 0) + SNOW + Lines.player("a", sides[side], 2, end - step * off, 0, 0, 0)
                    + Lines.player("b", sides[1 - side], 2, 10, 0, 0, 0) + Lines.player("c", sides[1 - side], 2, 10, 0, 0, 0)
                    + Lines.at(5, "a goes"));
                int finish = x.finish();
                Check.due(sides[side] + " from " + off + " off", finish, off == 1 ? 6 : 9);
                Check.due(sides[side] + " from " + off + " off", x.winner(), off == 1 ? side : 1 - side);
            }
            // at the other one's end nobody has WON
            SnowWalls x = Check.told(Lines.law(3, 8, 9, 0) + SNOW + Lines.player("a", sides[side], 2, 19 - end, 0, 0, 0)
                + Lines.player("b", sides[1 - side], 2, 10, 0, 0, 0) + Lines.at(5, "a goes"));
            Check.due(sides[side] + " from the wrong end", x.finish(), 9);
            Check.due(sides[side] + " from the wrong end", x.winner(), 2);
        }
    }
}
