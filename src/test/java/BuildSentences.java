/** Term III's building, duels, supply and thaw, and promises 29 to 37, sentence by sentence, at their bounds. */
final class BuildSentences {
    private static final String LAW = Lines.law(3, 8, 9, 0);
    private static final String SNOW = Lines.snow(5, 5, 2);

    private BuildSentences() {
    }

    static void all() {
        hides();
        hidesBetween();
        hidesBits();
        build();
        buildLikeOnes();
        buildBounds();
        duel();
        leastAndMost();
        mix();
        supply();
        supplyBounds();
        stands();
        falls();
    }

    private static void hides() {
        Doc.says("III", "HIDES of SITES (bits): of each two, one of the other SIDE and one of theirs, neither out, those whose flat throw, "
            + "first at second, "
            + "is HIDDEN by blocks that stand or a block at one of the SITES.");
        Doc.says("29", "HIDES;");
        String text = LAW + SNOW + Lines.left("a", 1, 5, 9, 0, 1) + Lines.left("c", 2, 5, 9, 0, 1) + Lines.right("b", 1, 9, 9, 0, 9)
            + Lines.right("d", 3, 10, 0, 0, 1) + Lines.site("s", "left", 1, 7, 1) + Lines.site("t", "left", 2, 7, 1)
            + Lines.site("u", "right", 1, 7, 1) + Lines.site("v", "right", 3, 7, 1);
        SnowWalls x = Check.told(text);
        Check.due("s: a from b and d", x.hides(1), 2);
        Check.due("t: c from b and d", x.hides(2), 2);
        Check.due("s and t", x.hides(3), 4);
        Check.due("u: b from a and c", x.hides(4), 2);
        Check.due("u and v", x.hides(12), 4);
        // a block that stands, of whatever SIDE, counts for each
        x = Check.told(text + Lines.block("w", "right", 2, 6, 1) + "at 0 b flat c");
        Check.due("s, and w hides c", x.hides(1), 4);
        Check.due("t and w hide c once", x.hides(2), 2);
        Check.due("of right w hides none", x.hides(4), 2);
        x.start(Draws.seed(0, 89));
        x.tenth();
        Check.due("w has fallen", x.block(0), 0);
        Check.due("s alone", x.hides(1), 2);
        // neither out
        x = Check.told(text + "at 0 b flat a");
        x.start(Draws.seed(0, 89, 0, 89));
        x.tenth();
        Check.due("a is out", x.player(0, 3), 1);
        Check.due("s hides nobody that is not out", x.hides(1), 0);
        Check.due("t", x.hides(2), 2);
        Check.due("u hides from c alone", x.hides(4), 1);
    }

    private static void hidesBetween() {
        // from 9 to 5 and from 5 to 9: strictly between, in the lane of the one of theirs
        for (int at = 3; at <= 11; at++) {
            String two = LAW + SNOW + Lines.left("a", 1, 5, 9, 0, 1) + Lines.right("b", 2, 9, 9, 0, 9);
            boolean between = at > 5 && at < 9;
            Check.due("left at 1," + at, Check.told(two + Lines.site("s", "left", 1, at, 1)).hides(1), between ? 1 : 0);
            Check.due("left at 2," + at, Check.told(two + Lines.site("s", "left", 2, at, 1)).hides(1), 0);
            Check.due("right at 2," + at, Check.told(two + Lines.site("s", "right", 2, at, 1)).hides(1), between ? 1 : 0);
            Check.due("right at 1," + at, Check.told(two + Lines.site("s", "right", 1, at, 1)).hides(1), 0);
        }
        // where they are now
        SnowWalls x = Check.told(LAW + SNOW + Lines.left("a", 1, 5, 9, 0, 1) + Lines.right("b", 2, 9, 9, 0, 9)
            + Lines.site("s", "left", 1, 6, 1) + "at 0 a goes");
        Check.due("a at 5", x.hides(1), 1);
        x.tenth();
        Check.due("a at 6", x.hides(1), 0);
    }

    private static void hidesBits() {
        Doc.says("29", "0 of no SITES.");
        Doc.says("29", "NONE: 1 (no MATCH); 2 (bits of none such, or of both SIDES).");
        // left: sites 0, 2, 5; right: 1, 3, 4
        StringBuilder text = new StringBuilder(LAW + SNOW + Lines.left("a", 0, 5, 9, 0, 1) + Lines.right("b", 0, 9, 9, 0, 9)
            + Lines.block("w", "left", 0, 7, 1));
        String[] sides = {"left", "right", "left", "right", "right", "left"};
        for (int s = 0; s < 6; s++) {
            text.append(Lines.site("s" + (char) ('a' + s), sides[s], 4, 7, 1));
        }
        SnowWalls x = Check.told(text.toString());
        for (int sites = -70; sites <= 140; sites++) {
            boolean left = (sites & ~37) == 0;
            boolean right = (sites & ~26) == 0;
            x.match(-1);
            Check.due("hides(" + sites + ")", x.hides(sites), sites == 0 ? 0 : left || right ? 1 : -1);
            Check.due("trouble behind hides(" + sites + ")", x.trouble(), left || right ? 0 : 2);
            if (sites == 30) {
                x = Check.told(text.toString());
            }
        }
        x = Check.told(LAW + SNOW + Lines.left("a", 0, 5, 9, 0, 1));
        Check.due("no SITES where there are none", x.hides(0), 0);
        Check.due("trouble", x.trouble(), 0);
        Check.refused(x, "a SITE where there are none", x.hides(1), 2);
        Calls.refusedBy("29");
        Calls.leavesAll("29");
    }

    private static final String LANES = LAW + SNOW + Lines.left("a", 0, 5, 0, 0, 0) + Lines.left("b", 1, 5, 0, 0, 0)
        + Lines.left("c", 2, 5, 0, 0, 0) + Lines.right("z", 4, 19, 0, 0, 0);

    private static void build() {
        Doc.says("III", "BUILD in so many minutes: SITES of a SIDE that take no more together, of most HIDES (no SITES: those of theirs "
            + "HIDDEN by blocks that "
            + "stand);");
        Doc.says("30", "BUILD of a SIDE: SITES as bits.");
        // in lanes 0, 1, 2, of 3, 4, 30 minutes; one of right
        String sites = Lines.site("s", "left", 0, 9, 3) + Lines.site("t", "right", 4, 9, 1) + Lines.site("u", "left", 1, 9, 4)
            + Lines.site("v", "left", 2, 9, 30);
        SnowWalls x = Check.told(LANES + sites);
        int[][] due = {{0, 0}, {2, 0}, {3, 1}, {4, 1}, {6, 1}, {7, 5}, {29, 5}, {33, 5}, {34, 5}, {36, 5}, {37, 13}, {180, 13}};
        for (int[] two : due) {
            Check.due("left in " + two[0], x.build(0, two[0]), two[1]);
        }
        Check.due("right in 0", x.build(1, 0), 0);
        Check.due("right in 1", x.build(1, 1), 2);
        Check.due("right in 180", x.build(1, 180), 2);
        // what blocks hide already needs no SITE
        x = Check.told(LANES + sites + Lines.block("w", "right", 0, 6, 1));
        Check.due("s hides no more than w", x.build(0, 3), 0);
        Check.due("u alone", x.build(0, 7), 4);
        x = Check.told(LANES + sites + Lines.block("f", "right", 0, 6, 1) + Lines.block("g", "left", 1, 6, 1)
            + Lines.block("h", "left", 2, 6, 1));
        Check.due("nothing to hide", x.build(0, 180), 0);
        Check.due("right all the same", x.build(1, 180), 2);
        x = Check.told(LANES);
        Check.due("no SITES", x.build(0, 180), 0);
        // as the GAME is now: a is out, a block has fallen
        x = Check.told(LANES.replace(Lines.right("z", 4, 19, 0, 0, 0), Lines.right("z", 0, 9, 9, 0, 9)) + Lines.site("s", "left", 0, 7, 3)
            + Lines.site("u", "left", 1, 7, 4) + Lines.block("w", "left", 1, 8, 1) + "at 0 z flat b;at 1 z flat a");
        x.start(Draws.seed(0, 89, 0, 89, 0, 60));
        Check.due("w hides b: s for a", x.build(0, 180), 1);
        x.tenth();
        Check.due("w has fallen: s and u", x.build(0, 180), 3);
        x.tenth();
        Check.due("a is out", x.player(0, 3), 1);
        Check.due("u for b", x.build(0, 180), 2);
    }

    private static void buildLikeOnes() {
        Doc.says("III", "of like ones the least minutes, then the least bits.");
        String three = Lines.site("s", "left", 0, 9, 3) + Lines.site("t", "left", 0, 10, 2) + Lines.site("u", "left", 0, 11, 2);
        SnowWalls x = Check.told(LANES + three);
        Check.due("the least minutes, then the least bits", x.build(0, 180), 2);
        Check.due("in 2", x.build(0, 2), 2);
        Check.due("in 1", x.build(0, 1), 0);
        x = Check.told(LANES + three.replace("takes 3", "takes 2"));
        Check.due("all of like minutes: the least bits", x.build(0, 180), 1);
        x = Check.told(LANES + three.replace("takes 2", "takes 4"));
        Check.due("the least minutes, and the least bits", x.build(0, 180), 1);
        // lanes 1 and 0 of 2 each, or lanes 0 and 1 of 1 and 3
        x = Check.told(LANES + Lines.site("s", "left", 0, 9, 1) + Lines.site("t", "left", 1, 9, 3) + Lines.site("u", "left", 1, 8, 2)
            + Lines.site("v", "left", 0, 8, 2));
        Check.due("s and u, 3 minutes", x.build(0, 180), 5);
        Check.due("s alone in 2", x.build(0, 2), 1);
    }

    private static void buildBounds() {
        // six lanes' worth: five lanes, 30 minutes each, and a sixth SITE that hides nobody more
        StringBuilder text = new StringBuilder(LAW + SNOW + Lines.right("z", 4, 19, 0, 0, 0));
        for (int lane = 0; lane < 5; lane++) {
            text.append(Lines.left("p" + (char) ('a' + lane), lane, lane == 4 ? 0 : 3, 0, 0, 0));
        }
        text.append(Lines.left("pf", 4, 10, 0, 0, 0));
        for (int lane = 0; lane < 5; lane++) {
            text.append(Lines.site("s" + (char) ('a' + lane), "left", lane, lane == 4 ? 5 : 9, 30));
        }
        text.append(Lines.site("sf", "left", 4, 11, 30));
        SnowWalls x = Check.told(text.toString());
        Check.due("hides of all", x.hides(63), 6);
        // the sixth hides the two of lane 4 at once
        int[] due = {0, 32, 33, 35, 39, 47, 47};
        for (int many = 0; many <= 6; many++) {
            Check.due("build in " + 30 * many, x.build(0, 30 * many), due[many]);
            if (many > 0) {
                Check.due("build in " + (30 * many - 1), x.build(0, 30 * many - 1), due[many - 1]);
            }
        }
        Doc.says("30", "NONE: 1 (no MATCH, SIDE); 2 (0 .. 180).");
        Calls.refusedBy("30");
        Calls.leavesAll("30");
    }

    /** CHANCES of p at q: flat and high, by what q does: stands, ducks, sidesteps. */
    private static int[][] chances(int far, int arm, int dodge, int thrown) {
        int[][] of = new int[2][3];
        for (int does = 0; does < 3; does++) {
            int d = does == 2 ? 2 * dodge : dodge;
            of[0][does] = does == 1 ? 0 : Math.max(0, Math.min(100, 95 - 4 * far + 5 * arm - 6 * d - 3 * thrown));
            of[1][does] = Math.max(0, Math.min(100, 70 - 3 * far + 4 * arm - 4 * d - 2 * thrown + (does == 1 ? 15 : 0)));
        }
        return of;
    }

    private static void duel() {
        Doc.says("III", "DUEL of p at q: p flat or high, q stands, ducks, or sidesteps (its dodge counts twice): CHANCE of each; flat at "
            + "one that ducks 0.");
        Doc.says("31", "LEAST.");
        Doc.says("32", "MOST.");
        Doc.says("33", "MIX: how many of a hundred are flat.");
        Doc.says("34", "What that is worth, of 10,000.");
        for (int far : new int[] {0, 1, 4, 10, 19, 23}) {
            for (int arm : new int[] {0, 1, 5, 9}) {
                for (int dodge = 0; dodge <= 9; dodge++) {
                    int lane = Math.max(0, far - 19);
                    SnowWalls x = Check.told(LAW + SNOW + Lines.left("p", 0, 0, arm, 0, 9) + Lines.right("q", lane, far - lane, 9, dodge, 9)
                        + Lines.right("t", 4, 19, 0, 9, 0) + "at 0 p high t");
                    duel(x, chances(far, arm, dodge, 0), "far " + far + ", arm " + arm + ", dodge " + dodge);
                    x.tenth();
                    duel(x, chances(far, arm, dodge, 1), "far " + far + ", arm " + arm + ", dodge " + dodge + ", thrown once");
                }
            }
        }
    }

    private static void duel(SnowWalls x, int[][] of, String what) {
        int least = 0;
        int most = 100;
        for (int[] how : of) {
            least = Math.max(least, Math.min(how[0], Math.min(how[1], how[2])));
        }
        for (int does = 0; does < 3; does++) {
            most = Math.min(most, Math.max(of[0][does], of[1][does]));
        }
        int mix = 0;
        int rests = -1;
        for (int flat = 0; flat <= 100; flat++) {
            int worth = 10000;
            for (int does = 0; does < 3; does++) {
                worth = Math.min(worth, flat * of[0][does] + (100 - flat) * of[1][does]);
            }
            if (worth > rests) {
                mix = flat;
                rests = worth;
            }
        }
        Check.due("LEAST, " + what, x.least(0, 1), least);
        Check.due("MOST, " + what, x.most(0, 1), most);
        Check.due("MIX, " + what, x.mix(0, 1), mix);
        Check.due("what it is worth, " + what, x.rests(0, 1), rests);
    }

    private static SnowWalls duelOf(int far, int arm, int dodge) {
        return Check.told(LAW + SNOW + Lines.left("p", 0, 0, arm, 0, 9) + Lines.right("q", 0, far, 9, dodge, 9));
    }

    private static void leastAndMost() {
        Doc.says("III", "LEAST: the greater of the least of flat, the least of high;");
        Doc.says("III", "MOST: the least, by what q does, of the greater one of both.");
        // flat 95 - 24, 0, 95 - 48; high 70 - 16, 85 - 16, 70 - 32
        SnowWalls x = duelOf(0, 0, 4);
        Check.due("LEAST of 71, 0, 47; 54, 69, 38", x.least(0, 1), 38);
        Check.due("MOST of 71, 0, 47; 54, 69, 38", x.most(0, 1), 47);
        x = duelOf(0, 9, 0);
        Check.due("LEAST of 100, 0, 100; 100, 100, 100", x.least(0, 1), 100);
        Check.due("MOST of 100, 0, 100; 100, 100, 100", x.most(0, 1), 100);
        x = duelOf(19, 0, 9);
        Check.due("LEAST of nothing", x.least(0, 1), 0);
        Check.due("MOST of nothing", x.most(0, 1), 0);
        // a CHANCE of 0 at one that stands, 11 at one that ducks
        x = duelOf(18, 0, 5);
        Check.due("MOST of 0, 0, 0; 0, 11, 0", x.most(0, 1), 0);
        Doc.says("31", "NONE: 1.");
        Calls.refusedBy("31");
        Calls.leavesAll("31");
        Doc.says("32", "NONE: 1.");
        Calls.refusedBy("32");
        Calls.leavesAll("32");
    }

    private static void mix() {
        Doc.says("III", "MIX: so many of a hundred flat, the others high: the least by what q does of both CHANCES times these, together; "
            + "the greatest such, with the least number of flat ones.");
        // flat 55, 0, 19; high 43, 58, 19: 1,900 for 0 up to 67 flat ones
        SnowWalls x = duelOf(1, 0, 6);
        Check.due("the least number of flat ones", x.mix(0, 1), 0);
        Check.due("what it is worth", x.rests(0, 1), 1900);
        // flat 95, 0, 95; high 70, 85, 70: 25 m + 7,000 and 8,500 - 85 m meet at 13.6
        x = duelOf(0, 0, 0);
        Check.due("13 flat ones", x.mix(0, 1), 13);
        Check.due("25 times 13 and 7,000", x.rests(0, 1), 7325);
        x = duelOf(0, 9, 0);
        Check.due("all high", x.mix(0, 1), 0);
        Check.due("10,000", x.rests(0, 1), 10000);
        x = duelOf(19, 0, 9);
        Check.due("worth nothing: none flat", x.mix(0, 1), 0);
        Check.due("worth nothing", x.rests(0, 1), 0);
        Doc.says("33", "NONE: 1.");
        Calls.refusedBy("33");
        Calls.leavesAll("33");
        Doc.says("34", "NONE: 1.");
        Calls.refusedBy("34");
        Calls.leavesAll("34");
    }

    private static void supplyOf(int carry, int[] balls, int n, int due) {
        for (String side : new String[] {"left", "right"}) {
            StringBuilder text = new StringBuilder(Lines.law(carry, 8, 9, 0) + SNOW
                + Lines.player("z", side.equals("left") ? "right" : "left", 0, 0, 0, 0, 9));
            StringBuilder of = new StringBuilder();
            for (int i = 0; i < balls.length; i++) {
                text.append(Lines.player("p" + (char) ('a' + i), side, 0, 0, 0, 0, balls[i]));
                of.append(balls[i]).append(' ');
            }
            SnowWalls x = Check.told(text.toString());
            x.match(-1);
            Check.due("supply of " + n + " from " + of, x.supply(side.equals("left") ? 0 : 1, n), due);
            Check.due("trouble", x.trouble(), 0);
        }
    }

    private static void supply() {
        Doc.says("III", "SUPPLY of n: the fewest balls rolled till each of a SIDE not out has n or more.");
        Doc.says("35", "SUPPLY; -2 if there are too few.");
        supplyOf(9, new int[] {0}, 0, 0);
        supplyOf(9, new int[] {0}, 1, -2);
        supplyOf(9, new int[] {1}, 1, 0);
        supplyOf(9, new int[] {9}, 9, 0);
        supplyOf(9, new int[] {8}, 9, -2);
        supplyOf(9, new int[] {3, 0}, 1, 1);
        supplyOf(9, new int[] {3, 0}, 2, -2);
        supplyOf(9, new int[] {4, 0}, 2, 2);
        supplyOf(9, new int[] {0, 4}, 2, 2);
        supplyOf(9, new int[] {2, 2}, 2, 0);
        supplyOf(9, new int[] {1, 2, 3}, 2, 1);
        supplyOf(9, new int[] {1, 1, 3}, 2, -2);
        supplyOf(9, new int[] {1, 1, 4}, 2, 2);
        supplyOf(9, new int[] {9, 0, 0, 0, 0, 0, 0}, 1, 6);
        supplyOf(9, new int[] {6, 0, 0, 0, 0, 0, 0}, 1, -2);
        supplyOf(9, new int[] {7, 0, 0, 0, 0, 0, 0}, 1, 6);
        supplyOf(9, new int[] {0, 9, 0, 9, 0, 9, 9}, 5, 15);
        // beyond carry balls may be had, not asked for
        supplyOf(1, new int[] {9, 0}, 1, 1);
        supplyOf(1, new int[] {0, 0}, 0, 0);
        // of a SIDE that has nobody
        SnowWalls x = Check.told(LAW + SNOW + Lines.left("a", 0, 0, 0, 0, 0));
        Check.due("of nobody", x.supply(1, 3), 0);
        // one that is out neither needs nor gives
        String text = LAW + SNOW + Lines.left("a", 0, 5, 0, 0, 0) + Lines.left("b", 4, 0, 0, 0, 0) + Lines.left("c", 4, 0, 0, 0, 3)
            + Lines.right("z", 0, 5, 9, 0, 1);
        x = Check.told(text + "at 0 z flat a");
        Check.due("both need one", x.supply(0, 1), 2);
        Check.due("both need two", x.supply(0, 2), -2);
        x.start(Draws.seed(0, 89, 0, 89));
        x.tenth();
        Check.due("b alone needs one", x.supply(0, 1), 1);
        x = Check.told(text.replace("0,5", "1,5").replace(Lines.left("c", 4, 0, 0, 0, 3), Lines.left("c", 1, 5, 0, 0, 3))
            + "at 0 z flat c");
        x.start(Draws.seed(0, 89, 0, 89));
        x.tenth();
        Check.due("c is out", x.player(2, 3), 1);
        Check.due("what it has is lost", x.supply(0, 1), -2);
    }

    private static void supplyBounds() {
        Doc.says("35", "NONE: 1 (no MATCH, SIDE); 2 (n 0 .. carry).");
        for (int carry = 1; carry <= 9; carry++) {
            SnowWalls x = Check.told(Lines.law(carry, 8, 9, 0) + SNOW + Lines.left("a", 0, 0, 0, 0, 9));
            Check.due("n 0", x.supply(0, 0), 0);
            Check.due("n of carry " + carry, x.supply(0, carry), 0);
            Check.due("trouble", x.trouble(), 0);
            Check.refused(x, "n beyond carry " + carry, x.supply(0, carry + 1), 2);
            Check.refused(x, "n -1", x.supply(0, -1), 2);
        }
        Calls.refusedBy("35");
        Calls.leavesAll("35");
    }

    private static void stands() {
        Doc.says("III", "STANDS: how strong a block is behind n TENTHS more in which nothing is done but thaw;");
        Doc.says("36", "STANDS.");
        for (int thaws : new int[] {0, 1, 2, 19, 20}) {
            for (int strong : new int[] {1, 2, 9}) {
                // what is told isn't done: a doesn't leave the block; beyond the end of the GAME it thaws on
                SnowWalls x = Check.told(Lines.law(3, 8, 9, thaws) + Lines.snow(5, 7, 2) + Lines.snow(6, 6, 2)
                    + Lines.left("a", 1, 5, 0, 0, 1)
                    + Lines.right("b", 1, 9, 9, 0, 9) + Lines.block("v", "left", 1, 6, strong) + Lines.block("w", "left", 3, 6, strong)
                    + "at 2 a goes;at 2 b flat a");
                for (int passed = 0; passed <= 2; passed++) {
                    for (int n : new int[] {0, 1, 2, 3, 17, 18, 19, 20, 178, 179, 180, 199, 200}) {
                        int thawed = thaws == 0 ? 0 : (passed + n) / thaws;
                        String of = "thaws " + thaws + ", strong " + strong + ", passed " + passed + ", behind " + n;
                        Check.due("LEANT on, " + of, x.stands(0, n), Math.max(0, strong - 2 * thawed));
                        Check.due(of, x.stands(1, n), Math.max(0, strong - thawed));
                    }
                    if (passed < 2) {
                        x.tenth();
                    }
                }
                x.hour(6);
                Check.due("no thaw in this HOUR", x.stands(1, 200), x.block(1));
            }
        }
        // behind the end of the GAME
        SnowWalls x = Check.told(Lines.law(3, 8, 1, 2) + Lines.snow(5, 9, 2) + Lines.left("a", 1, 5, 0, 0, 1)
            + Lines.block("w", "left", 3, 6, 9));
        x.finish();
        Check.due("behind the end", x.stands(0, 0), 9);
        Check.due("behind the end", x.stands(0, 1), 8);
        Check.due("behind the end", x.stands(0, 2), 8);
        Check.due("behind the end", x.stands(0, 3), 7);
        Doc.says("36", "NONE: 1; 2 (n 0 .. 200).");
        Calls.refusedBy("36");
        Calls.leavesAll("36");
    }

    private static void falls() {
        Doc.says("III", "FALLS: the first number of these behind which it doesn't stand.");
        Doc.says("37", "FALLS; -2 if it stands for 200.");
        for (int thaws : new int[] {1, 2, 19, 20}) {
            for (int strong : new int[] {1, 2, 3, 8, 9}) {
                SnowWalls x = Check.told(Lines.law(3, 8, 9, thaws) + Lines.snow(5, 7, 2) + Lines.left("a", 1, 5, 0, 0, 1)
                    + Lines.right("b", 1, 9, 9, 0, 9) + Lines.block("v", "left", 1, 6, strong) + Lines.block("w", "left", 3, 6, strong));
                String of = "thaws " + thaws + ", strong " + strong;
                Check.due("LEANT on, " + of, x.falls(0), (strong + 1) / 2 * thaws);
                Check.due(of, x.falls(1), strong * thaws);
                Check.due("it stands ahead of it, " + of, x.stands(1, strong * thaws - 1), 1);
                Check.due("not behind it, " + of, x.stands(1, strong * thaws), 0);
                x.tenth();
                Check.due("behind a TENTH, " + of, x.falls(1), strong * thaws - 1);
            }
        }
        // 0: it doesn't stand now
        SnowWalls x = Check.told(Lines.law(3, 8, 9, 0) + SNOW + Lines.left("a", 1, 5, 0, 0, 1) + Lines.right("b", 1, 9, 9, 0, 9)
            + Lines.block("v", "left", 1, 6, 1) + Lines.block("w", "left", 3, 6, 1) + "at 0 b flat a");
        Check.due("no thaws", x.falls(0), -2);
        Check.due("trouble of -2", x.trouble(), 0);
        x.start(Draws.seed(0, 89));
        x.tenth();
        Check.due("hit, it doesn't stand", x.falls(0), 0);
        Check.due("the other stands", x.falls(1), -2);
        for (int wet = 0; wet <= 9; wet++) {
            x = Check.told(Lines.law(3, 8, 9, 1) + Lines.snow(5, wet, 2) + Lines.left("a", 1, 5, 0, 0, 1)
                + Lines.block("v", "left", 2, 6, 9));
            Check.due("wet " + wet, x.falls(0), wet >= 7 ? 9 : -2);
        }
        Doc.says("37", "NONE: 1.");
        Calls.refusedBy("37");
        Calls.leavesAll("37");
    }
}
