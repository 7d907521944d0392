/** Term II (throws, HITS, draws, thaws, the end of a GAME), sentence by sentence, at its bounds. */
final class TenthSentences {
    private static final String LAW = Lines.law(3, 8, 6, 0);
    private static final String SNOW = Lines.snow(5, 5, 2);

    private TenthSentences() {
    }

    static void all() {
        nothingThrown();
        aBallLess();
        bits();
        hidden();
        flatAtDucking();
        hits();
        hitsAsAhead();
        seen();
        seenFromWhere();
        missed();
        draws();
        thaws();
        thawsOfStrong();
        leantOn();
        overByWinning();
        overByOut();
        overByTenths();
        winner();
        winnerWhoWon();
    }

    private static SnowWalls played(String text, int seed) {
        SnowWalls x = Check.told(text);
        x.start(seed);
        x.tenth();
        return x;
    }

    private static void nothingThrown() {
        Doc.says("II", "flat, high: nothing if it has no ball, or the other is of its SIDE, or out.");
        for (String how : new String[] {"flat", "high"}) {
            String three = LAW + SNOW + Lines.left("a", 1, 5, 9, 0, 1) + Lines.left("c", 1, 6, 9, 0, 0) + Lines.right("b", 1, 9, 9, 0, 1)
                + Lines.right("d", 1, 9, 9, 0, 2);
            for (String act : new String[] {"c @ b", "a @ c", "a @ a", "c @ a", "d @ b", "b @ b"}) {
                String acts = Lines.at(0, act.replace("@", how));
                SnowWalls x = Check.told(three + acts);
                SnowWalls untold = Check.told(three + acts.replace("at 0", "at 98"));
                x.tenth();
                untold.tenth();
                Check.due("nothing: " + acts, Sight.of(x), Sight.of(untold));
            }
            // at one that is out by then, in the very TENTH and in the next
            for (int t = 0; t <= 1; t++) {
                SnowWalls x = Check.told(three + "at 0 d flat a;" + Lines.at(t, "b " + how + " a"));
                x.start(Draws.seed(0, 89, 0, 89));
                x.tenth();
                Check.due("a is out", x.player(0, 3), 1);
                int seed = x.size(8);
                x.tenth();
                Check.due("nothing thrown at one that is out", x.sum(0), 1);
                Check.due("no ball less", x.player(2, 1), 1);
                Check.due("no draw", x.size(8), seed);
            }
        }
    }

    private static void aBallLess() {
        Doc.says("II", "Else a ball less, once more thrown.");
        for (String how : new String[] {"flat", "high"}) {
            // HIT, MISSED by a CHANCE of 0, to bits, at a block, at one that ducks: a ball less all the same
            String two = LAW + Lines.left("a", 1, 5, 0, 0, 2) + Lines.right("b", 1, 9, 9, 0, 1) + Lines.right("c", 4, 19, 9, 9, 1)
                + Lines.right("d", 2, 9, 9, 0, 1) + Lines.block("w", "right", 2, 8, 9) + "at 0 b ducks;";
            for (String at : new String[] {"b", "c", "d"}) {
                for (String snow : new String[] {SNOW, Lines.snow(5, 0, 0)}) {
                    SnowWalls x = played(two + snow + Lines.at(0, "a " + how + " " + at), 0);
                    Check.due("a ball less: " + how + " " + at, x.player(0, 1), 1);
                    Check.due("once thrown: " + how + " " + at, x.player(0, 2), 1);
                    Check.due("thrown: " + how + " " + at, x.sum(0), 1);
                    Check.due("of the other nothing: " + how + " " + at, x.player(1, 1), 1);
                }
            }
        }
        // as long as there is one
        SnowWalls x = Check.told(LAW + SNOW + Lines.left("a", 1, 5, 0, 0, 9) + Lines.right("c", 4, 19, 9, 9, 1)
            + Lines.at(0, "a flat c").repeat(12));
        x.tenth();
        Check.due("nine thrown of twelve", x.sum(0), 9);
        Check.due("nine thrown of twelve", x.player(0, 2), 9);
        Check.due("none left", x.player(0, 1), 0);
    }

    private static void bits() {
        Doc.says("II", "If HOLD is below 100 a draw mod 100 that is HOLD or more: it fell to bits.");
        int[] hold = {0, 0, 40, 40, 90, 90, 90, 70, 70, 20};
        for (int wet = 0; wet <= 9; wet++) {
            for (int draw : new int[] {0, hold[wet] - 1, hold[wet], 99}) {
                if (draw < 0) {
                    continue;
                }
                for (String how : new String[] {"flat", "high"}) {
                    // CHANCE is 100, so that what holds HITS
                    int seed = Draws.seed(draw, draw);
                    SnowWalls x = played(LAW + Lines.snow(5, wet, 2) + Lines.left("a", 1, 7, 9, 0, 1) + Lines.right("b", 1, 8, 0, 0, 0)
                        + Lines.at(0, "a " + how + " b"), seed);
                    String of = how + ", wet " + wet + ", a draw of " + draw;
                    boolean bits = draw >= hold[wet];
                    Check.due("to bits: " + of, x.sum(1), bits ? 1 : 0);
                    Check.due("HITS: " + of, x.sum(3), bits ? 0 : 1);
                    Check.due("draws: " + of, x.size(8), Draws.behind(seed, bits ? 1 : 2));
                }
            }
        }
        // it falls to bits ahead of the block
        SnowWalls x = played(LAW + SNOW + Lines.left("a", 1, 5, 9, 0, 1) + Lines.right("b", 1, 9, 0, 0, 0)
            + Lines.block("w", "left", 1, 7, 1) + "at 0 a flat b", Draws.seed(90, 99));
        Check.due("bits hit no block", x.block(0), 1);
        Check.due("bits hit no block", x.sum(2), 0);
    }

    private static void hidden() {
        Doc.says("II", "Flat and HIDDEN: that block is one less strong (0: it stands no more).");
        for (int strong : new int[] {1, 2, 9}) {
            String text = LAW + SNOW + Lines.left("a", 1, 5, 9, 0, 2) + Lines.right("b", 1, 9, 0, 0, 0)
                + Lines.block("u", "left", 1, 6, 9) + Lines.block("w", "left", 1, 7, strong) + Lines.block("y", "left", 1, 9, 9);
            int seed = Draws.seed(0, 89, 0, 89);
            SnowWalls x = played(text + "at 0 a flat b", seed);
            Check.due("strong " + strong + ", one less", x.block(1), strong - 1);
            Check.due("hit blocks", x.sum(2), 1);
            Check.due("HITS", x.sum(3), 0);
            Check.due("no draw but one", x.size(8), Draws.behind(seed, 1));
            Check.due("the others", x.block(0) + x.block(2), 18);
            x = played(text + "at 0 a flat b;at 0 a flat b", seed);
            Check.due("strong " + strong + ", two less", x.block(1), Math.max(0, strong - 2));
            Check.due("the one behind it is hit then", x.block(0), strong == 1 ? 8 : 9);
            x = played(text + "at 0 a high b", seed);
            Check.due("high isn't HIDDEN", x.block(1), strong);
            Check.due("high isn't HIDDEN", x.sum(2), 0);
            Check.due("high HITS", x.sum(3), 1);
        }
    }

    private static void flatAtDucking() {
        Doc.says("II", "Flat at one that ducks: nothing.");
        String text = LAW + SNOW + Lines.left("a", 1, 7, 9, 0, 1) + Lines.right("b", 1, 9, 0, 0, 0) + "at 0 b ducks;at 0 a flat b;";
        int seed = Draws.seed(0, 89, 0, 0);
        SnowWalls x = played(text, seed);
        Check.due("HITS", x.sum(3), 0);
        Check.due("to bits", x.sum(1), 0);
        Check.due("out", x.player(1, 3), 0);
        Check.due("no draw but one", x.size(8), Draws.behind(seed, 1));
        // bits and blocks come first
        Check.due("to bits all the same", played(text, Draws.seed(90, 90)).sum(1), 1);
        Check.due("a block is hit all the same", played(text + Lines.block("w", "left", 1, 8, 9), seed).block(0), 8);
        x = played(text.replace("flat", "high"), seed);
        Check.due("high HITS one that ducks", x.sum(3), 1);
    }

    private static void hits() {
        Doc.says("II", "Else HIT if a draw mod 100 is below CHANCE as it was ahead of this throw (no draw if that is 0).");
        // lane, x of b, arm, dodge: CHANCES flat of 0 and 0, 1, 50 and so on
        int[][] flat = {{4, 19, 0, 9, 0}, {4, 19, 3, 3, 0}, {4, 19, 2, 2, 1}, {0, 0, 0, 1, 89}, {0, 0, 2, 1, 99}, {0, 0, 1, 0, 100},
            {0, 0, 9, 0, 100}};
        int[][] high = {{4, 19, 0, 9, 0}, {4, 18, 4, 5, 0}, {4, 19, 5, 5, 1}, {0, 0, 0, 1, 66}, {0, 1, 8, 0, 99}, {0, 2, 9, 0, 100},
            {0, 0, 9, 0, 100}};
        for (int[] of : flat) {
            hits("flat", of);
        }
        for (int[] of : high) {
            hits("high", of);
        }
    }

    private static void hits(String how, int[] of) {
        int chance = of[4];
        for (int draw : new int[] {0, chance - 1, chance, 99}) {
            if (draw < 0 || draw > 99) {
                continue;
            }
            int seed = Draws.seed(0, 89, draw, draw);
            String text = LAW + SNOW + Lines.left("a", 0, 0, of[2], 0, 1) + Lines.right("b", of[0], of[1], 0, of[3], 0);
            SnowWalls x = Check.told(text + Lines.at(0, "a " + how + " b"));
            x.start(seed);
            Check.due("CHANCE", x.chance(0, 1, how.equals("high")), chance);
            x.tenth();
            String what = how + ", CHANCE " + chance + ", a draw of " + draw;
            Check.due("HITS: " + what, x.sum(3), draw < chance ? 1 : 0);
            Check.due("out: " + what, x.player(1, 3), draw < chance ? 1 : 0);
            Check.due("MISSED: " + what, x.sum(4), 0);
            Check.due("draws: " + what, x.size(8), Draws.behind(seed, chance == 0 ? 1 : 2));
        }
    }

    /** The throw itself doesn't count yet; those ahead of it do. */
    private static void hitsAsAhead() {
        for (String how : new String[] {"flat", "high"}) {
            int chance = how.equals("flat") ? 95 - 40 : 70 - 30;
            int less = how.equals("flat") ? 3 : 2;
            String text = LAW + SNOW + Lines.left("a", 0, 0, 0, 0, 2) + Lines.right("b", 0, 10, 0, 0, 0) + Lines.right("c", 4, 19, 0, 9, 0);
            String once = Lines.at(0, "a " + how + " b");
            Check.due(how + ", the first throw", played(text + once, Draws.seed(0, 89, chance - 1, chance - 1)).sum(3), 1);
            Check.due(how + ", the first throw", played(text + once, Draws.seed(0, 89, chance, chance)).sum(3), 0);
            // c, at CHANCE 0, takes one draw
            String then = "at 0 a flat c;" + once;
            Check.due(how + ", the second", played(text + then, Draws.seed(0, 89, 0, 89, chance - less - 1, chance - less - 1)).sum(3), 1);
            Check.due(how + ", the second", played(text + then, Draws.seed(0, 89, 0, 89, chance - less, chance - less)).sum(3), 0);
        }
        // where b has gone to by then counts
        String gone = LAW + SNOW + Lines.left("a", 0, 0, 0, 0, 2) + Lines.right("b", 0, 15, 0, 0, 0) + "at 0 b goes;at 0 a flat b";
        Check.due("one nearer", played(gone, Draws.seed(0, 89, 38, 38)).sum(3), 1);
        Check.due("one nearer", played(gone, Draws.seed(0, 89, 39, 39)).sum(3), 0);
    }

    private static String hitAt(int x, String more) {
        // CHANCE is 100
        return LAW + SNOW + Lines.left("a", 0, 9, 9, 0, 1) + Lines.right("b", 0, x, 0, 0, 0) + "at 0 a flat b;" + more;
    }

    private static void seen() {
        Doc.says("II", "A HIT is SEEN if a draw mod 100 is below 100 less sees times how far the x of the one that is hit is from the "
            + "referee's "
            + "(0 at least; no draw if that is 100, or there is no referee): it is out;");
        // x of b, x and sees of the referee, what that comes to
        int[][] cases = {{9, 9, 9, 100}, {12, 0, 0, 100}, {9, 8, 1, 99}, {9, 10, 1, 99}, {10, 0, 5, 50}, {11, 0, 9, 1}, {8, 19, 9, 1},
            {12, 0, 8, 4}, {12, 0, 9, 0}, {13, 0, 9, 0}, {7, 19, 9, 0}};
        for (int[] of : cases) {
            for (int draw : new int[] {0, of[3] - 1, of[3], 99}) {
                if (draw >= 0 && draw <= 99) {
                    seen(hitAt(of[0], Lines.referee(of[1], of[2])), of[3], draw);
                }
            }
        }
        int seed = Draws.seed(0, 89, 0, 49);
        SnowWalls x = played(hitAt(9, ""), seed);
        Check.due("no referee: out", x.player(1, 3), 1);
        Check.due("no referee: no draw", x.size(8), Draws.behind(seed, 2));
    }

    private static void seen(String text, int of, int draw) {
        int seed = Draws.seed(0, 89, 0, 49, draw, draw);
        SnowWalls x = played(text, seed);
        String what = "a draw of " + draw + " below " + of + ": " + text;
        Check.due("HITS, " + what, x.sum(3), 1);
        boolean out = of == 100 || draw < of;
        Check.due("out, " + what, x.player(1, 3), out ? 1 : 0);
        Check.due("MISSED, " + what, x.sum(4), out ? 0 : 1);
        Check.due("draws, " + what, x.size(8), Draws.behind(seed, of == 100 ? 2 : 3));
    }

    private static void seenFromWhere() {
        // the x of the one that is hit, where it is by then, not of the one that throws
        String text = LAW + SNOW + Lines.left("a", 0, 0, 9, 0, 1) + Lines.right("b", 0, 11, 0, 0, 0) + "at 0 b goes;at 0 a flat b;";
        SnowWalls x = played(text + Lines.referee(10, 9), Draws.seed(0, 89, 0, 49, 99, 99));
        Check.due("b stands at 11, which is 9 less", x.player(1, 3), 0);
        x = played(text.replace("0,11", "0,12") + Lines.referee(11, 9), Draws.seed(0, 89, 0, 49, 99, 99));
        Check.due("b has gone to 11", x.player(1, 0), 11);
        Check.due("where the referee is", x.player(1, 3), 1);
    }

    private static void missed() {
        Doc.says("II", "else MISSED.");
        // 100 less 9 times 12: MISSED, it isn't out and goes on
        SnowWalls x = Check.told(LAW + SNOW + Lines.left("a", 0, 9, 9, 0, 2) + Lines.right("b", 0, 12, 9, 0, 1)
            + Lines.referee(0, 9) + "at 0 a flat b;at 0 b flat a;at 0 a flat b");
        x.start(Draws.seed(0, 89, 0, 40, 0, 99, 90, 99, 0, 89));
        x.tenth();
        Check.due("HITS", x.sum(3), 2);
        Check.due("MISSED", x.sum(4), 2);
        Check.due("out", x.player(1, 3), 0);
        Check.due("it throws on", x.player(1, 2), 1);
        Check.due("thrown at again", x.player(0, 2), 2);
    }

    private static void draws() {
        Doc.says("II", "A draw: SEED becomes (75 times SEED and 74) mod 65,537.");
        // c's CHANCE is 0, so that there is one draw a throw
        String text = LAW + SNOW + Lines.left("a", 0, 0, 0, 0, 9) + Lines.right("c", 4, 19, 0, 9, 0);
        SnowWalls x = Check.told(text + Lines.at(0, "a flat c"));
        int[][] due = {{0, 74}, {1, 149}, {872, 65474}, {873, 12}, {32768, 32805}, {32769, 32880}, {65535, 65461}, {65536, 65536}};
        for (int[] two : due) {
            x.start(two[0]);
            x.tenth();
            Check.due("SEED behind " + two[0], x.size(8), two[1]);
        }
        // SEED 0 is drawn, and goes on
        int ahead = 0;
        while (Draws.behind(ahead, 1) != 0) {
            ahead++;
        }
        x = Check.told(text + Lines.at(0, "a flat c").repeat(3));
        x.start(ahead);
        x.tenth();
        Check.due("0, 74, 5624", x.size(8), 5624);
    }

    private static void thaws() {
        Doc.says("II", "Behind that, if thaws isn't 0 and goes into t and 1, and wet is 7 or more:");
        for (int thaws : new int[] {0, 1, 2, 3, 7, 19, 20}) {
            SnowWalls x = Check.told(Lines.law(3, 8, 21, thaws) + Lines.snow(5, 7, 2) + Lines.left("a", 0, 0, 0, 0, 0)
                + Lines.right("b", 0, 0, 0, 0, 0) + Lines.block("w", "right", 4, 0, 9));
            for (int passed = 1; passed <= 21; passed++) {
                x.tenth();
                int thawed = thaws == 0 ? 0 : passed / thaws;
                Check.due("thaws " + thaws + ", behind " + passed, x.block(0), Math.max(0, 9 - thawed));
            }
        }
        for (int wet = 0; wet <= 9; wet++) {
            SnowWalls x = Check.told(Lines.law(3, 8, 9, 1) + Lines.snow(5, wet, 2) + Lines.snow(6, 9 - wet, 2)
                + Lines.left("a", 0, 0, 0, 0, 0) + Lines.right("b", 0, 0, 0, 0, 0) + Lines.block("w", "right", 4, 0, 9));
            x.tenth();
            Check.due("wet " + wet, x.block(0), wet >= 7 ? 8 : 9);
            // the snow of this HOUR
            x.start(0);
            x.hour(6);
            x.tenth();
            Check.due("wet " + (9 - wet), x.block(0), 9 - wet >= 7 ? 8 : 9);
        }
        // behind what is done: the block is hit ahead of it, and a leaves it
        String text = Lines.law(3, 8, 9, 1) + Lines.snow(5, 7, 2) + Lines.left("a", 1, 5, 0, 0, 1) + Lines.right("b", 1, 9, 0, 0, 0)
            + Lines.block("w", "left", 1, 6, 4);
        Check.due("LEANT on", played(text, 0).block(0), 2);
        Check.due("left behind", played(text + "at 0 a goes", 0).block(0), 3);
        Check.due("hit, then LEANT on", played(text + "at 0 a flat b", Draws.seed(0, 69)).block(0), 1);
        // in the TENTH that ends the GAME, too: by one that WON, by nobody left, by tenths
        String ends = text.replace("tenths 9", "tenths 1");
        Check.due("in the last TENTH", played(ends, 0).block(0), 2);
        SnowWalls x = played(text.replace("1,9", "1,5").replace("b of right at 1,5 arm 0 dodge 0 balls 0",
            "b of right at 1,5 arm 9 dodge 0 balls 1")
            + "at 0 b flat a", Draws.seed(0, 69, 0, 89));
        Check.due("nobody left", x.over(), 1);
        Check.due("thawed, but not LEANT on", x.block(0), 3);
        x = Check.told(text.replace("tenths 9", "tenths 2").replace("1,9", "1,1") + "at 1 b goes");
        x.finish();
        Check.due("right has WON", x.winner(), 1);
        Check.due("thawed as it WON", x.block(0), 0);
        // come to it in this very TENTH
        Check.due("come to it", played(text.replace("1,5", "1,4") + "at 0 a goes", 0).block(0), 2);
    }

    private static void thawsOfStrong() {
        Doc.says("II", "each block that stands is one less strong, and one more if it is LEANT on:");
        Doc.says("II", "0 at least.");
        for (int strong = 1; strong <= 9; strong++) {
            SnowWalls x = Check.told(Lines.law(3, 8, 9, 1) + Lines.snow(5, 9, 2) + Lines.left("a", 1, 5, 0, 0, 1)
                + Lines.right("b", 1, 9, 0, 0, 0) + Lines.block("v", "left", 1, 6, strong) + Lines.block("w", "left", 3, 6, strong));
            for (int passed = 1; passed <= 9; passed++) {
                x.tenth();
                Check.due("LEANT on, strong " + strong + " behind " + passed, x.block(0), Math.max(0, strong - 2 * passed));
                Check.due("strong " + strong + " behind " + passed, x.block(1), Math.max(0, strong - passed));
            }
            Check.due("hit blocks", x.sum(2), 0);
            Check.due("no draw", x.size(8), 0);
        }
    }

    private static int thawed(String side, int lane, int at, String leaner, int laneP, int xP) {
        String other = leaner.equals("left") ? "right" : "left";
        return 9 - played(Lines.law(3, 8, 9, 1) + Lines.snow(5, 7, 2) + Lines.player("a", leaner, laneP, xP, 0, 0, 0)
            + Lines.player("b", other, (laneP + 1) % 5, xP, 0, 0, 0) + Lines.block("w", side, lane, at, 9), 0).block(0);
    }

    private static void leantOn() {
        Doc.says("II", "a player of its SIDE that isn't out is in its lane, at x less 1 (left) or x and 1 (right);");
        for (int x = 0; x <= 19; x++) {
            for (int at : new int[] {0, 1, 9, 18, 19}) {
                Check.due("left " + x + " at " + at, thawed("left", 2, at, "left", 2, x), x == at - 1 ? 2 : 1);
                Check.due("right " + x + " at " + at, thawed("right", 2, at, "right", 2, x), x == at + 1 ? 2 : 1);
                Check.due("left " + x + " at right's " + at, thawed("right", 2, at, "left", 2, x), 1);
                Check.due("right " + x + " at left's " + at, thawed("left", 2, at, "right", 2, x), 1);
            }
        }
        for (int lane = 0; lane <= 4; lane++) {
            // b, of the other SIDE, stands in the next lane
            Check.due("left in lane " + lane, thawed("left", lane, 9, "left", lane, 8), 2);
            Check.due("right in lane " + lane, thawed("right", lane, 9, "right", lane, 10), 2);
            Check.due("left beside lane " + lane, thawed("left", lane, 9, "left", (lane + 2) % 5, 8), 1);
            Check.due("right beside lane " + lane, thawed("right", lane, 9, "right", (lane + 2) % 5, 10), 1);
        }
        // by two: no more than by one
        String text = Lines.law(3, 8, 9, 1) + Lines.snow(5, 7, 2) + Lines.left("a", 1, 5, 0, 0, 0) + Lines.left("c", 1, 5, 0, 0, 0)
            + Lines.right("b", 1, 5, 9, 0, 2) + Lines.block("w", "left", 1, 6, 9);
        Check.due("by two", played(text, 0).block(0), 7);
        // one of two is out; both are
        Check.due("by one that isn't out", played(text + "at 0 b flat a", Draws.seed(0, 69, 0, 89)).block(0), 7);
        SnowWalls x = played(text + "at 0 b flat a;at 0 b flat c", Draws.seed(0, 69, 0, 89, 0, 69, 0, 89));
        Check.due("both are out", x.left(0), 0);
        Check.due("by none that isn't out", x.block(0), 8);
    }

    private static void overByWinning() {
        Doc.says("II", "The GAME is OVER behind a TENTH in which a SIDE WON,");
        for (String side : new String[] {"left", "right"}) {
            boolean left = side.equals("left");
            SnowWalls x = Check.told(Lines.law(3, 8, 9, 0) + SNOW + Lines.player("a", side, 0, left ? 18 : 1, 0, 0, 0)
                + Lines.player("b", left ? "right" : "left", 0, 9, 0, 0, 0) + "at 5 a goes;at 5 b makes");
            for (int passed = 0; passed <= 5; passed++) {
                Check.due("over behind " + passed, x.over(), 0);
                x.tenth();
            }
            Check.due("over behind 6", x.over(), 1);
            Check.due("the TENTH goes on to its end", x.player(1, 1), 1);
            Check.refused(x, "tenth behind it", x.tenth(), 5);
        }
    }

    private static void overByOut() {
        Doc.says("II", "a SIDE has nobody left that is not out,");
        for (String side : new String[] {"left", "right"}) {
            String other = side.equals("left") ? "right" : "left";
            String text = Lines.law(3, 8, 9, 0) + SNOW + Lines.player("a", side, 0, 9, 9, 0, 2) + Lines.player("b", other, 0, 9, 0, 0, 0)
                + Lines.player("c", other, 0, 9, 0, 0, 0) + "at 1 a flat b;at 2 a flat c;at 2 a makes;";
            SnowWalls x = Check.told(text);
            x.start(Draws.seed(0, 89, 0, 89, 0, 89, 0, 89));
            for (int passed = 0; passed <= 2; passed++) {
                Check.due("over behind " + passed, x.over(), 0);
                x.tenth();
            }
            Check.due("over with nobody left", x.over(), 1);
            Check.due("TENTHS", x.size(7), 3);
            Check.due("the TENTH goes on to its end", x.player(0, 1), 1);
            // one that is MISSED isn't out
            x = Check.told(text + Lines.referee(19, 9));
            x.start(Draws.seed(0, 89, 0, 80, 11, 99, 0, 89, 0, 80, 11, 99));
            Check.due("MISSED ones aren't out", x.finish(), 9);
            // told nobody: behind the first TENTH
            x = Check.told(Lines.law(3, 8, 9, 0) + SNOW + Lines.player("a", side, 0, 9, 9, 0, 2));
            Check.due("over of one SIDE, ahead of a TENTH", x.over(), 0);
            Check.due("tenth of one SIDE", x.tenth(), 1);
            Check.due("over of one SIDE, behind a TENTH", x.over(), 1);
            Check.due("winner of one SIDE", x.winner(), side.equals("left") ? 0 : 1);
        }
    }

    private static void overByTenths() {
        Doc.says("II", "or as many as tenths have passed.");
        for (int tenths : new int[] {1, 2, 98, 99}) {
            SnowWalls x = Check.told(Lines.law(3, 8, tenths, 0) + SNOW + Lines.left("a", 0, 9, 9, 0, 2) + Lines.right("b", 0, 9, 0, 0, 0));
            for (int passed = 1; passed <= tenths; passed++) {
                Check.due("over ahead of " + passed + " of " + tenths, x.over(), 0);
                Check.due("tenth", x.tenth(), passed);
            }
            Check.due("over of " + tenths, x.over(), 1);
            Check.refused(x, "a TENTH more than " + tenths, x.tenth(), 5);
            Check.due("TENTHS", x.size(7), tenths);
        }
    }

    private static void winner() {
        Doc.says("II", "else who has some left if the other has none; else, when it is OVER, who has more left; 2: neither.");
        String[] names = {"a", "b", "c", "d", "e", "f", "g", "h"};
        for (int left = 0; left <= 4; left++) {
            for (int right = left == 0 ? 1 : 0; right <= 4; right++) {
                StringBuilder text = new StringBuilder(Lines.law(3, 8, 2, 0) + SNOW);
                for (int p = 0; p < left + right; p++) {
                    text.append(Lines.player(names[p], p < left ? "left" : "right", 0, 9, 0, 0, 0));
                }
                SnowWalls x = Check.told(text.toString());
                x.finish();
                Check.due("winner of " + left + " and " + right, x.winner(), left == right ? 2 : left > right ? 0 : 1);
            }
        }
        // those that are out count no more
        SnowWalls x = Check.told(Lines.law(3, 8, 2, 0) + SNOW + Lines.left("a", 0, 9, 9, 0, 2) + Lines.right("b", 0, 9, 0, 0, 0)
            + Lines.right("c", 0, 9, 0, 0, 0) + "at 0 a flat b");
        x.start(Draws.seed(0, 89, 0, 89));
        x.finish();
        Check.due("one and one left", x.winner(), 2);
    }

    private static void winnerWhoWon() {
        Doc.says("II", "WINNER: who WON (the first, by LINES);");
        String text = Lines.law(3, 8, 3, 0) + SNOW + Lines.left("a", 0, 18, 9, 0, 2) + Lines.right("b", 0, 1, 9, 0, 2)
            + Lines.left("c", 0, 18, 0, 0, 0) + Lines.right("d", 0, 1, 0, 0, 0) + Lines.right("e", 0, 18, 0, 0, 0);
        String[] acts = {"at 2 a goes;at 2 b goes", "at 2 b goes;at 2 a goes", "at 2 b goes;at 2 a goes;at 2 c goes",
            "at 2 c goes;at 2 d goes"};
        int[] due = {0, 1, 1, 0};
        for (int i = 0; i < acts.length; i++) {
            SnowWalls x = Check.told(text + acts[i]);
            x.finish();
            Check.due("winner: " + acts[i], x.winner(), due[i]);
        }
        // WON by one that is hit behind it, so that its SIDE has nobody left
        SnowWalls x = Check.told(Lines.law(3, 8, 3, 0) + SNOW + Lines.left("a", 0, 18, 9, 0, 2) + Lines.right("b", 0, 19, 9, 0, 2)
            + "at 2 a goes;at 2 b flat a");
        x.start(Draws.seed(0, 89, 0, 89));
        x.finish();
        Check.due("nobody of left is left", x.left(0), 0);
        Check.due("but it WON", x.winner(), 0);
    }
}
