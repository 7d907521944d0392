/** Promises 29 to 37: hides, build, least, most, mix, rests, supply, stands, falls. */
public final class WallsTest {
    private static final String LAW = "law carry 3 line 8 tenths 20 thaws 3;snow 5 wet 5 deep 2;snow 6 wet 8 deep 2;";

    private WallsTest() {
    }

    public static void main(String[] args) {
        hides();
        hidesAsTheGameIs();
        build();
        buildOfLikeOnes();
        buildOfMany();
        duels();
        mixes();
        duelRefusals();
        supply();
        supplyOfTheOut();
        stands();
        falls();
        leaning();
        Check.done();
    }

    private static final String LANES = LAW + "player a of left at 1,5 arm 5 dodge 2 balls 3;"
        + "player b of right at 1,9 arm 1 dodge 3 balls 1;player c of left at 2,2 arm 0 dodge 9 balls 1;"
        + "player d of right at 3,15 arm 0 dodge 9 balls 1;";

    private static void hides() {
        SnowWalls x = Check.told(LANES + "site s of left at 1,6 takes 3;site t of right at 1,6 takes 5;"
            + "site u of left at 2,12 takes 3;site v of right at 1,8 takes 5;block w of right at 3,10 strong 1");
        Check.due("no SITES", x.hides(0), 0);
        Check.due("trouble", x.trouble(), 0);
        Check.due("s hides a from b and d", x.hides(1), 2);
        Check.due("u hides c from d alone", x.hides(4), 1);
        Check.due("both", x.hides(5), 3);
        // w, of whatever SIDE, hides d from a and c
        Check.due("t hides b from a and c; w d from both", x.hides(2), 4);
        Check.due("v hides no more", x.hides(8), 4);
        Check.due("t and v hide b once", x.hides(10), 4);
        Check.refused(x, "hides of both SIDES", x.hides(3), 2);
        Check.refused(x, "hides of both SIDES", x.hides(15), 2);
        Check.refused(x, "hides of none such", x.hides(16), 2);
        Check.refused(x, "hides of none such, and one", x.hides(17), 2);
        Check.refused(x, "hides(-1)", x.hides(-1), 2);
        Check.refused(x, "hides of the highest bit", x.hides(1 << 31), 2);
    }

    private static void hidesAsTheGameIs() {
        SnowWalls x = Check.told(LANES + "site s of left at 1,8 takes 3; block w of left at 2,5 strong 1;"
            + "at 0 a high b; at 1 b flat c; at 10 b goes");
        Check.due("s hides a from b and d, w c from both", x.hides(1), 4);
        // draws 74, 24: 24 is below 70 - 12 + 20 - 12
        x.tenth();
        Check.due("b is out", x.player(1, 3), 1);
        Check.due("not from one that is out", x.hides(1), 2);
        x = Check.told(LANES + "site s of left at 1,8 takes 3; block w of left at 2,5 strong 1;"
            + "at 0 b flat c; at 11 b goes");
        x.tenth();
        Check.due("w stands no more", x.block(0), 0);
        Check.due("s alone", x.hides(1), 2);
        for (int i = 1; i < 12; i++) {
            x.tenth();
        }
        Check.due("b has gone to 8, where s is", x.player(1, 0), 8);
        Check.due("s hides from d alone", x.hides(1), 1);
    }

    private static void build() {
        SnowWalls x = Check.told(LANES + "site s of left at 1,6 takes 3;site t of right at 1,6 takes 5;"
            + "site u of left at 2,12 takes 4;site v of right at 3,8 takes 30");
        Check.due("no time", x.build(0, 0), 0);
        Check.due("too little time", x.build(0, 2), 0);
        Check.due("s", x.build(0, 3), 1);
        Check.due("s, the better one", x.build(0, 6), 1);
        Check.due("both", x.build(0, 7), 5);
        Check.due("both in much time", x.build(0, 180), 5);
        Check.due("right", x.build(1, 5), 2);
        Check.due("right", x.build(1, 34), 2);
        Check.due("right, both", x.build(1, 35), 10);
        Check.due("trouble", x.trouble(), 0);
        Check.refused(x, "build(2, 1)", x.build(2, 1), 1);
        Check.refused(x, "build(-1, -1)", x.build(-1, -1), 1);
        Check.refused(x, "build(0, -1)", x.build(0, -1), 2);
        Check.refused(x, "build(0, 181)", x.build(0, 181), 2);
        // what a block hides already needs no SITE
        x = Check.told(LANES + "site s of left at 1,6 takes 1;block w of right at 1,7 strong 1");
        Check.due("nothing to be won", x.build(0, 180), 0);
        x = Check.told(LANES);
        Check.due("no SITES at all", x.build(0, 180), 0);
    }

    private static void buildOfLikeOnes() {
        SnowWalls x = Check.told(LANES + "site s of left at 1,7 takes 3;site t of left at 1,6 takes 2;"
            + "site u of left at 1,8 takes 2");
        Check.due("the least minutes, then the least bits", x.build(0, 180), 2);
        // two of 2 and 3 minutes hide no more than one of 5, and their bits are less
        x = Check.told(LAW + "player a of left at 1,5 arm 5 dodge 2 balls 3;player b of right at 1,9 arm 1 dodge 3 balls 1;"
            + "player c of left at 2,5 arm 1 dodge 3 balls 1;player e of left at 1,5 arm 1 dodge 3 balls 1;"
            + "site s of left at 2,7 takes 2;site t of left at 2,8 takes 5;site u of left at 1,7 takes 3");
        Check.due("of most HIDES", x.build(0, 180), 5);
        Check.due("two hidden by one", x.build(0, 4), 4);
        Check.due("one hidden", x.build(0, 2), 1);
    }

    private static void buildOfMany() {
        StringBuilder text = new StringBuilder(LAW + "player z of right at 4,19 arm 1 dodge 3 balls 1");
        for (int i = 0; i < 5; i++) {
            text.append(";player p").append((char) ('a' + i)).append(" of left at ").append(i)
                .append(",0 arm 1 dodge 1 balls 1");
        }
        for (int i = 0; i < 5; i++) {
            text.append(";site s").append((char) ('a' + i)).append(" of left at ").append(i).append(",9 takes 30");
        }
        text.append(";site t of left at 0,9 takes 30");
        SnowWalls x = Check.told(text.toString());
        Check.due("hides of all six", x.hides(63), 5);
        for (int many = 0; many <= 6; many++) {
            Check.due("build in " + 30 * many, x.build(0, 30 * many), (1 << Math.min(5, many)) - 1);
        }
        Check.due("build in 59", x.build(0, 59), 1);
    }

    private static final String DUEL = LAW + "player a of left at 1,5 arm # dodge 2 balls 3;"
        + "player b of right at 1,9 arm 1 dodge @ balls 1;player c of left at 1,5 arm 1 dodge 2 balls 3";

    private static SnowWalls duel(int arm, int dodge) {
        return Check.told(DUEL.replace("#", "" + arm).replace("@", "" + dodge));
    }

    private static void duels() {
        // arm 2, dodge 5: flat stands 59, ducks 0, sidesteps 29; high 46, 61, 26
        SnowWalls x = duel(2, 5);
        Check.due("least: 0 flat, 26 high", x.least(0, 1), 26);
        Check.due("most: 59, 61, 29", x.most(0, 1), 29);
        // dodge 0: flat 89, 0, 89; high 66, 81, 66
        x = duel(2, 0);
        Check.due("least", x.least(0, 1), 66);
        Check.due("most", x.most(0, 1), 81);
        // arm 0, dodge 2: flat 67, 0, 55; high 50, 65, 42
        x = duel(0, 2);
        Check.due("least", x.least(0, 1), 42);
        Check.due("most: 67, 65, 55", x.most(0, 1), 55);
        // arm 9, dodge 9: flat 70, 0, 16; high 58, 73, 22
        x = duel(9, 9);
        Check.due("least", x.least(0, 1), 22);
        Check.due("most: 70, 73, 22", x.most(0, 1), 22);
        Check.due("trouble", x.trouble(), 0);
    }

    /** The worth of so many flat ones, by the six CHANCES. */
    private static int worth(int m, int[] flat, int[] high) {
        int lowest = 10000;
        for (int does = 0; does < 3; does++) {
            lowest = Math.min(lowest, m * flat[does] + (100 - m) * high[does]);
        }
        return lowest;
    }

    private static void mixed(int arm, int dodge, int[] flat, int[] high) {
        int best = 0;
        for (int m = 1; m <= 100; m++) {
            best = worth(m, flat, high) > worth(best, flat, high) ? m : best;
        }
        SnowWalls x = duel(arm, dodge);
        Check.due("mix of arm " + arm + ", dodge " + dodge, x.mix(0, 1), best);
        Check.due("rests of arm " + arm + ", dodge " + dodge, x.rests(0, 1), worth(best, flat, high));
        Check.due("trouble", x.trouble(), 0);
    }

    private static void mixes() {
        mixed(2, 5, new int[] {59, 0, 29}, new int[] {46, 61, 26});
        mixed(2, 0, new int[] {89, 0, 89}, new int[] {66, 81, 66});
        mixed(0, 2, new int[] {67, 0, 55}, new int[] {50, 65, 42});
        mixed(9, 9, new int[] {70, 0, 16}, new int[] {58, 73, 22});
        mixed(9, 0, new int[] {100, 0, 100}, new int[] {94, 100, 94});
        // dodge 0: 89 m + 66 (100 - m) and 81 (100 - m) meet at 14.4: 14 flat ones rest at 6,922
        SnowWalls x = duel(2, 0);
        Check.due("mix", x.mix(0, 1), 14);
        Check.due("rests", x.rests(0, 1), 6922);
    }

    private static void duelRefusals() {
        SnowWalls x = duel(1, 1);
        int[][] none = {{0, 0}, {0, 2}, {-1, 0}, {0, -1}, {3, 1}, {1, 3}};
        for (int[] two : none) {
            String of = "(" + two[0] + ", " + two[1] + ")";
            Check.refused(x, "least" + of, x.least(two[0], two[1]), 1);
            Check.refused(x, "most" + of, x.most(two[0], two[1]), 1);
            Check.refused(x, "mix" + of, x.mix(two[0], two[1]), 1);
            Check.refused(x, "rests" + of, x.rests(two[0], two[1]), 1);
        }
    }

    private static void supply() {
        SnowWalls x = Check.told(LAW + "player a of left at 1,5 arm 5 dodge 2 balls 5;"
            + "player b of left at 1,9 arm 1 dodge 3 balls 0;player c of left at 1,5 arm 0 dodge 9 balls 1;");
        Check.due("supply(0, 0)", x.supply(0, 0), 0);
        Check.due("supply(0, 1)", x.supply(0, 1), 1);
        Check.due("supply(0, 2)", x.supply(0, 2), 3);
        Check.due("too few", x.supply(0, 3), -2);
        Check.due("of nobody", x.supply(1, 3), 0);
        Check.due("trouble", x.trouble(), 0);
        Check.refused(x, "supply(2, 0)", x.supply(2, 0), 1);
        Check.refused(x, "supply(-1, 9)", x.supply(-1, 9), 1);
        Check.refused(x, "supply(0, 4)", x.supply(0, 4), 2);
        Check.refused(x, "supply(0, -1)", x.supply(0, -1), 2);
    }

    private static void supplyOfTheOut() {
        // a, with two balls, is HIT by 74 and 24
        SnowWalls x = Check.told(LAW + "player a of left at 1,5 arm 5 dodge 0 balls 2;"
            + "player b of left at 1,9 arm 1 dodge 3 balls 0;player d of left at 1,9 arm 1 dodge 3 balls 1;"
            + "player c of right at 1,6 arm 0 dodge 9 balls 1;at 0 c flat a");
        Check.due("ahead of it", x.supply(0, 1), 1);
        x.tenth();
        Check.due("a is out", x.player(0, 3), 1);
        Check.due("too few", x.supply(0, 1), -2);
        Check.due("right has thrown its own", x.supply(1, 1), -2);
    }

    private static final String THAW = LAW + "player a of left at 1,5 arm 5 dodge 2 balls 5;"
        + "player b of right at 1,9 arm 1 dodge 3 balls 0;block v of left at 1,6 strong 5;"
        + "block w of left at 1,7 strong 9;block y of right at 1,8 strong 4";

    private static void stands() {
        SnowWalls x = Check.told(THAW);
        Check.due("no thaw in HOUR 5", x.stands(0, 200), 5);
        x.hour(6);
        int[] v = {5, 5, 5, 3, 3, 3, 1, 1, 1, 0, 0};
        int[] w = {9, 9, 9, 8, 8, 8, 7, 7, 7, 6, 6};
        int[] y = {4, 4, 4, 2, 2, 2, 0, 0, 0, 0, 0};
        for (int n = 0; n <= 10; n++) {
            Check.due("LEANT on, of left, behind " + n, x.stands(0, n), v[n]);
            Check.due("not LEANT on, behind " + n, x.stands(1, n), w[n]);
            Check.due("LEANT on, of right, behind " + n, x.stands(2, n), y[n]);
        }
        Check.due("behind 26", x.stands(1, 26), 1);
        Check.due("behind 27", x.stands(1, 27), 0);
        Check.due("trouble", x.trouble(), 0);
        Check.refused(x, "stands(3, 0)", x.stands(3, 0), 1);
        Check.refused(x, "stands(-1, -1)", x.stands(-1, -1), 1);
        Check.refused(x, "stands(0, -1)", x.stands(0, -1), 2);
        Check.refused(x, "stands(0, 201)", x.stands(0, 201), 2);
        Check.due("stands(0, 200)", x.stands(0, 200), 0);
        x.tenth();
        Check.due("from TENTH 1 on", x.stands(0, 1), 5);
        Check.due("from TENTH 1 on", x.stands(0, 2), 3);
        Check.due("nothing passes", x.size(7), 1);
        Check.due("nothing thaws", x.block(0), 5);
        x.finish();
        Check.due("behind the end, six thaws", x.block(1), 3);
        Check.due("behind the end", x.stands(1, 1), 2);
    }

    private static void falls() {
        SnowWalls x = Check.told(THAW);
        Check.due("not in HOUR 5", x.falls(0), -2);
        Check.due("trouble", x.trouble(), 0);
        x.hour(6);
        Check.due("v", x.falls(0), 9);
        Check.due("w", x.falls(1), 27);
        Check.due("y", x.falls(2), 6);
        x.tenth();
        Check.due("v from TENTH 1 on", x.falls(0), 8);
        x.finish();
        Check.due("v doesn't stand", x.falls(0), 0);
        Check.refused(x, "falls(3)", x.falls(3), 1);
        Check.refused(x, "falls(-1)", x.falls(-1), 1);
        x = Check.told(THAW.replace("thaws 3", "thaws 0"));
        x.hour(6);
        Check.due("no thaws", x.falls(0), -2);
        // strong 9 by 20: 180; 9 by 1: 9
        x = Check.told(THAW.replace("thaws 3", "thaws 20"));
        x.hour(6);
        Check.due("by 20", x.falls(1), 180);
        Check.due("stands by 20", x.stands(1, 179), 1);
    }

    private static void leaning() {
        // in the lane, at x less 1 (left), not at x, nor at x and 1; a player of the other SIDE doesn't
        for (String at : new String[] {"1,6", "1,7", "1,4", "0,5", "2,5"}) {
            SnowWalls x = Check.told(THAW.replace("left at 1,5", "left at " + at).replace("right at 1,9", "right at 1,5"));
            x.hour(6);
            Check.due("not LEANT on from " + at, x.stands(0, 3), 4);
        }
        SnowWalls x = Check.told(THAW + ";player c of left at 1,5 arm 5 dodge 2 balls 5");
        x.hour(6);
        Check.due("LEANT on by two", x.stands(0, 3), 3);
        x = Check.told(THAW.replace("wet 8", "wet 7"));
        x.hour(6);
        Check.due("wet 7", x.stands(0, 3), 3);
        x = Check.told(THAW.replace("wet 8", "wet 9"));
        x.hour(6);
        Check.due("wet 9", x.stands(0, 3), 3);
    }
}
