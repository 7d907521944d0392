/** Promises 22 to 28: chance, hidden, odds, pair, gain, dash, runners. */
public final class ThrowsTest {
    private static final String GAME = "law carry 3 line 8 tenths 6 thaws 0;snow 5 wet 5 deep 2;snow 6 wet 9 deep 2;"
        + "player a of left at 1,5 arm 5 dodge 2 balls 3;player b of right at 2,9 arm 1 dodge 3 balls 1;"
        + "player c of left at 0,0 arm 0 dodge 9 balls 1;player d of right at 4,19 arm 0 dodge 9 balls 1;";

    private ThrowsTest() {
    }

    public static void main(String[] args) {
        chance();
        chanceAsTheGameIs();
        hidden();
        odds();
        pair();
        gain();
        dash();
        runners();
        refusals();
        Check.done();
    }

    private static void chance() {
        SnowWalls x = Check.told(GAME);
        Check.due("flat: 95 - 4 * 5 + 5 * 5 - 6 * 3", x.chance(0, 1, false), 82);
        Check.due("high: 70 - 3 * 5 + 4 * 5 - 4 * 3", x.chance(0, 1, true), 63);
        Check.due("flat: 95 - 4 * 5 + 5 * 1 - 6 * 2", x.chance(1, 0, false), 68);
        Check.due("high: 70 - 3 * 5 + 4 * 1 - 4 * 2", x.chance(1, 0, true), 51);
        Check.due("trouble", x.trouble(), 0);
        Check.due("no less than 0", x.chance(2, 3, false), 0);
        Check.due("no less than 0, high", x.chance(2, 3, true), 0);
        x = Check.told(GAME + "player e of left at 2,9 arm 9 dodge 0 balls 1");
        Check.due("no more than 100", x.chance(4, 1, false), 100);
        Check.due("high: 70 + 36 - 12", x.chance(4, 1, true), 94);
        x = Check.told(GAME.replace("dodge 3", "dodge 0") + "player e of left at 2,9 arm 9 dodge 0 balls 1");
        Check.due("no more than 100, high", x.chance(4, 1, true), 100);
    }

    private static void chanceAsTheGameIs() {
        // in TENTH 0 a throws twice at d, where its CHANCE is 0, and b goes to 8, ducking
        SnowWalls x = Check.told(GAME.replace("line 8", "line 10") + "at 0 a flat d; at 0 a flat d; at 0 b ducks;"
            + "at 3 b goes");
        x.tenth();
        Check.due("thrown twice, flat", x.chance(0, 1, false), 82 - 6);
        Check.due("thrown twice, high; it stands", x.chance(0, 1, true), 63 - 4);
        Check.due("of others nothing less", x.chance(1, 0, false), 68);
        x.tenth();
        x.tenth();
        x.tenth();
        Check.due("one nearer, flat", x.chance(0, 1, false), 82 - 6 + 4);
        Check.due("one nearer, high", x.chance(0, 1, true), 63 - 4 + 3);
    }

    private static void hidden() {
        String blocks = "block u of right at 2,6 strong 1; block v of left at 2,8 strong 1; block w of left at 2,8 strong 9;"
            + "block y of left at 1,8 strong 1; block z of left at 1,6 strong 1;";
        SnowWalls x = Check.told(GAME + blocks + "at 0 a flat b");
        Check.due("the nearest to q, of like ones the first", x.hidden(0, 1), 1);
        Check.due("the nearest to q, the other way", x.hidden(1, 0), 4);
        Check.due("from lane 0", x.hidden(2, 1), 1);
        Check.due("none in lane 4", x.hidden(0, 3), -2);
        Check.due("none in lane 0", x.hidden(3, 2), -2);
        Check.due("trouble", x.trouble(), 0);
        x.tenth();
        Check.due("block 1 stands no more", x.block(1), 0);
        Check.due("the next of like ones", x.hidden(0, 1), 2);
    }

    private static void odds() {
        SnowWalls x = Check.told(GAME);
        Check.due("flat", x.odds(0, 1, false), 82 * 90);
        Check.due("high", x.odds(0, 1, true), 63 * 90);
        x.hour(6);
        Check.due("in HOUR 6", x.odds(0, 1, true), 63 * 20);
        Check.due("trouble", x.trouble(), 0);
        Check.due("of 0", x.odds(2, 3, true), 0);
    }

    private static void pair() {
        SnowWalls x = Check.told(GAME);
        // a flat at b, dodge 0: 100; c high at b: 70 - 3 * 11: 37; of 90
        Check.due("a flat, c high", x.pair(0, 2, 1), 100000000 - 1000 * (10000 - 37 * 90));
        // c flat at b: 95 - 44: 51; a high: 75
        Check.due("c flat, a high", x.pair(2, 0, 1), 100000000 - (10000 - 51 * 90) * (10000 - 75 * 90));
        x.hour(6);
        Check.due("in HOUR 6", x.pair(0, 2, 1), 100000000 - 8000 * (10000 - 37 * 20));
        Check.due("trouble", x.trouble(), 0);
    }

    private static void gain() {
        SnowWalls x = Check.told(GAME);
        // with dodge 3: a flat 82, c high 25
        int with = 100000000 - (10000 - 82 * 90) * (10000 - 25 * 90);
        Check.due("a flat, c high", x.gain(0, 2, 1), 100000000 - 1000 * (10000 - 37 * 90) - with);
        Check.due("trouble", x.trouble(), 0);
        x = Check.told(GAME.replace("dodge 3", "dodge 0"));
        Check.due("of dodge 0", x.gain(0, 2, 1), 0);
    }

    private static void dash() {
        SnowWalls x = new SnowWalls();
        Check.makeTrouble(x);
        Check.due("none hits", x.dash(1, 2, 30), 4900);
        Check.due("trouble behind it", x.trouble(), 0);
        Check.due("fewer than two hit", x.dash(2, 2, 30), 4900 + 2 * 30 * 70);
        Check.due("fewer than three hit", x.dash(3, 2, 30), 10000);
        Check.due("fewer than two of three", x.dash(2, 3, 10), 729000 + 3 * 81000);
        Check.due("no throws", x.dash(1, 0, 100), 1);
        Check.due("c 0", x.dash(1, 8, 0), 10000000000000000L);
        Check.due("c 100", x.dash(8, 8, 100), 0);
        Check.due("c 100, nine", x.dash(9, 8, 100), 10000000000000000L);
        Check.due("half of eight", x.dash(4, 8, 50), (1 + 8 + 28 + 56) * 39062500000000L);
        Check.due("trouble", x.trouble(), 0);
        Check.refused(x, "dash(0, 1, 1)", x.dash(0, 1, 1), 2);
        Check.refused(x, "dash(10, 1, 1)", x.dash(10, 1, 1), 2);
        Check.refused(x, "dash(1, -1, 1)", x.dash(1, -1, 1), 2);
        Check.refused(x, "dash(1, 9, 1)", x.dash(1, 9, 1), 2);
        Check.refused(x, "dash(1, 1, -1)", x.dash(1, 1, -1), 2);
        Check.refused(x, "dash(1, 1, 101)", x.dash(1, 1, 101), 2);
    }

    private static void runners() {
        SnowWalls x = new SnowWalls();
        Check.makeTrouble(x);
        Check.due("one of 49 hundredths", x.runners(2, 30, 49), 1);
        Check.due("two of 50", x.runners(2, 30, 50), 2);
        Check.due("two of 91", x.runners(2, 30, 91), 2);
        Check.due("three of 92", x.runners(2, 30, 92), 3);
        Check.due("nine of all", x.runners(8, 100, 100), 9);
        Check.due("nine of eight sure hits and 1", x.runners(8, 100, 1), 9);
        Check.due("one of 0", x.runners(8, 100, 0), 1);
        Check.due("one of no throws", x.runners(0, 100, 100), 1);
        Check.due("trouble", x.trouble(), 0);
        Check.refused(x, "runners(-1, 1, 1)", x.runners(-1, 1, 1), 2);
        Check.refused(x, "runners(9, 1, 1)", x.runners(9, 1, 1), 2);
        Check.refused(x, "runners(1, -1, 1)", x.runners(1, -1, 1), 2);
        Check.refused(x, "runners(1, 101, 1)", x.runners(1, 101, 1), 2);
        Check.refused(x, "runners(1, 1, -1)", x.runners(1, 1, -1), 2);
        Check.refused(x, "runners(1, 1, 101)", x.runners(1, 1, 101), 2);
    }

    private static void refusals() {
        SnowWalls x = Check.told(GAME);
        int[][] none = {{0, 0}, {0, 2}, {3, 1}, {-1, 0}, {0, -1}, {4, 0}, {0, 4}, {1, 4}};
        for (int[] two : none) {
            String of = "(" + two[0] + ", " + two[1] + ")";
            Check.refused(x, "chance" + of, x.chance(two[0], two[1], true), 1);
            Check.refused(x, "hidden" + of, x.hidden(two[0], two[1]), 1);
            Check.refused(x, "odds" + of, x.odds(two[0], two[1], false), 1);
        }
        int[][] noPair = {{0, 0, 1}, {0, 2, 2}, {0, 1, 1}, {1, 0, 3}, {0, 1, 3}, {0, 3, 1}, {-1, 2, 1}, {0, 4, 1}, {0, 2, 4},
            {0, 2, -1}, {0, -1, 1}, {4, 2, 1}};
        for (int[] three : noPair) {
            String of = "(" + three[0] + ", " + three[1] + ", " + three[2] + ")";
            Check.refused(x, "pair" + of, x.pair(three[0], three[1], three[2]), 1);
            Check.refused(x, "gain" + of, x.gain(three[0], three[1], three[2]), 1);
        }
    }
}
