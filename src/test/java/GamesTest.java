/** Promises 6 to 21 and 44: games, tenth by tenth, and leagues of them. Seed 0 draws 74, 24, 52, 90, 41, 9, 31, 44. */
public final class GamesTest {
    private static final String LAW = "law carry 3 line 8 tenths 6 thaws 0;";
    private static final String SNOW = "snow 5 wet 5 deep 2;";
    private static final String TWO = "player a of left at 1,5 arm 5 dodge 0 balls 2;"
        + "player b of right at 1,9 arm 0 dodge 3 balls 1;";

    private GamesTest() {
    }

    public static void main(String[] args) {
        start();
        hour();
        tenthAndFinish();
        overAndWinner();
        playerBlockLeft();
        throwsThatHit();
        led();
        referees();
        narrowThrows();
        throwsThatDoNothing();
        bits();
        walls();
        wallsBetween();
        ducking();
        paired();
        pairedNot();
        making();
        rolling();
        going();
        goingOnceInTheFirstHalf();
        winning();
        outDoesNothing();
        sums();
        holdAndBestHour();
        marks();
        leagues();
        leaguesInTheHour();
        thaws();
        Check.done();
    }

    private static void start() {
        SnowWalls x = Check.told(LAW + SNOW + "snow 6 wet 9 deep 1;" + TWO + "block w of left at 2,2 strong 4;"
            + "at 0 a flat b; at 0 b goes");
        x.hour(6);
        x.tenth();
        Check.due("start(0)", x.start(0), true);
        Check.due("trouble", x.trouble(), 0);
        Check.due("TENTHS from the beginning", x.size(7), 0);
        Check.due("HOUR as it is", x.size(9), 6);
        Check.due("balls from the beginning", x.player(0, 1), 2);
        Check.due("thrown from the beginning", x.player(0, 2), 0);
        Check.due("x from the beginning", x.player(1, 0), 9);
        Check.due("sum from the beginning", x.sum(0), 0);
        Check.due("start(65536)", x.start(65536), true);
        Check.due("SEED", x.size(8), 65536);
        x.tenth();
        // 75 times -1 and 74, mod 65,537
        Check.due("SEED behind a draw", x.size(8), 65536);
        Check.refused(x, "start(-1)", x.start(-1), 2);
        Check.refused(x, "start(65537)", x.start(65537), 2);
        Check.due("TENTHS behind a refusal", x.size(7), 1);
    }

    private static void hour() {
        SnowWalls x = Check.told(LAW + "snow 5 wet 5 deep 2;snow 0 wet 2 deep 2;snow 5 wet 9 deep 2;snow 23 wet 1 deep 1;"
            + TWO);
        Check.due("HOUR at first", x.size(9), 5);
        Check.due("of like hours the latest counts", x.odds(0, 1, false), 86 * 20);
        Check.due("hour(0)", x.hour(0), true);
        Check.due("HOUR 0", x.size(9), 0);
        Check.due("odds in HOUR 0", x.odds(0, 1, false), 86 * 40);
        Check.due("hour(23)", x.hour(23), true);
        Check.due("odds in HOUR 23", x.odds(0, 1, false), 0);
        Check.refused(x, "hour(6)", x.hour(6), 1);
        Check.refused(x, "hour(24)", x.hour(24), 1);
        Check.refused(x, "hour(-1)", x.hour(-1), 1);
        Check.due("HOUR behind a refusal", x.size(9), 23);
        Check.due("hour(5)", x.hour(5), true);
    }

    private static void tenthAndFinish() {
        SnowWalls x = Check.told(LAW + SNOW + TWO);
        Check.due("tenth", x.tenth(), 1);
        Check.due("tenth", x.tenth(), 2);
        Check.due("trouble", x.trouble(), 0);
        Check.due("finish", x.finish(), 4);
        Check.due("TENTHS", x.size(7), 6);
        Check.due("finish behind the end", x.finish(), 0);
        Check.due("trouble of a finish behind the end", x.trouble(), 0);
        Check.refused(x, "tenth behind the end", x.tenth(), 5);
        x = Check.told(LAW.replace("tenths 6", "tenths 99") + SNOW + TWO);
        Check.due("finish of 99", x.finish(), 99);
    }

    private static void overAndWinner() {
        SnowWalls x = Check.told(LAW + SNOW + TWO + "at 1 a flat b");
        Check.due("over at first", x.over(), 0);
        Check.refused(x, "winner at first", x.winner(), 5);
        x.tenth();
        Check.due("over behind one", x.over(), 0);
        x.tenth();
        Check.due("over with nobody left", x.over(), 1);
        Check.due("winner: who has some left", x.winner(), 0);
        x = Check.told(LAW + SNOW + TWO + "player c of right at 1,5 arm 1 dodge 1 balls 1");
        x.finish();
        Check.due("winner: who has more left", x.winner(), 1);
        x = Check.told(LAW + SNOW + TWO);
        x.finish();
        Check.due("winner: neither", x.winner(), 2);
        // a SIDE that is told nobody: the GAME is OVER behind its first TENTH, not ahead of it
        x = Check.told(LAW + SNOW + "player a of right at 1,5 arm 5 dodge 0 balls 2");
        Check.due("over of one SIDE at first", x.over(), 0);
        Check.due("finish of one SIDE", x.finish(), 1);
        Check.due("over of one SIDE", x.over(), 1);
        Check.due("winner of one SIDE", x.winner(), 1);
    }

    private static void playerBlockLeft() {
        SnowWalls x = Check.told(LAW + SNOW + TWO + "block w of right at 1,19 strong 9");
        Check.due("x", x.player(1, 0), 9);
        Check.due("balls", x.player(0, 1), 2);
        Check.due("thrown", x.player(0, 2), 0);
        Check.due("out", x.player(0, 3), 0);
        Check.due("strong", x.block(0), 9);
        Check.due("trouble", x.trouble(), 0);
        Check.refused(x, "player(2, 0)", x.player(2, 0), 1);
        Check.refused(x, "player(-1, 0)", x.player(-1, 0), 1);
        Check.refused(x, "player(0, 4)", x.player(0, 4), 1);
        Check.refused(x, "player(0, -1)", x.player(0, -1), 1);
        Check.refused(x, "block(1)", x.block(1), 1);
        Check.refused(x, "block(-1)", x.block(-1), 1);
        Check.due("left(0)", x.left(0), 1);
        Check.due("left(1)", x.left(1), 1);
        Check.refused(x, "left(2)", x.left(2), 1);
        Check.refused(x, "left(-1)", x.left(-1), 1);
    }

    private static void throwsThatHit() {
        // CHANCE 86: FAR 4, arm 5, dodge 3; draws 74 (it holds), 24 (a HIT), and none as there is no referee
        SnowWalls x = Check.told(LAW + SNOW + TWO + "at 0 a flat b; at 0 b high a");
        x.tenth();
        Check.due("out", x.player(1, 3), 1);
        Check.due("a ball less", x.player(0, 1), 1);
        Check.due("once more thrown", x.player(0, 2), 1);
        Check.due("SEED behind two draws", x.size(8), 5624);
        Check.due("led(0)", x.led(0), 1);
        Check.makeTrouble(x);
        Check.due("led(1) throws", Check.ledThrows(x, 1), true);
        Check.due("trouble, which led leaves", x.trouble(), 2);
        Check.due("led(-1) throws", Check.ledThrows(x, -1), true);
        Check.due("left(1)", x.left(1), 0);
        Check.due("what is out doesn't throw", x.player(1, 1), 1);
        x = Check.told(LAW + SNOW + "player a of left at 0,0 arm 0 dodge 0 balls 1;"
            + "player b of right at 1,16 arm 0 dodge 0 balls 1; at 0 a flat b");
        Check.due("CHANCE", x.chance(0, 1, false), 27);
        x.tenth();
        Check.due("HITS of 24 below 27", x.sum(3), 1);
        x = Check.told(LAW + SNOW + "player a of left at 0,0 arm 0 dodge 0 balls 1;"
            + "player b of right at 2,18 arm 3 dodge 0 balls 1; at 0 a high b; at 0 b high a");
        Check.due("CHANCE", x.chance(1, 0, true), 22);
        x.tenth();
        // a: 74, 24 isn't below 10; b: 52, 90 isn't below 22
        Check.due("no HITS", x.sum(3), 0);
        Check.due("SEED behind four draws", x.size(8), 51790);
    }

    /** Two of the first SIDE out, the first player too. */
    private static void led() {
        SnowWalls x = Check.told(LAW + SNOW + "player a of left at 1,5 arm 5 dodge 0 balls 2;"
            + "player b of left at 1,5 arm 0 dodge 0 balls 1;player c of left at 4,5 arm 0 dodge 0 balls 1;"
            + "player d of right at 1,6 arm 9 dodge 3 balls 9;at 0 d flat a;at 1 d flat c");
        x.start(seedThatDraws(90, 70, 0));
        x.tenth();
        Check.due("led(0)", x.led(0), 0);
        Check.due("led(1) throws", Check.ledThrows(x, 1), true);
        x.tenth();
        Check.due("left", x.left(0), 1);
        Check.due("led(0)", x.led(0), 0);
        Check.due("led(1)", x.led(1), 2);
        Check.due("led(2) throws", Check.ledThrows(x, 2), true);
    }

    private static void referees() {
        // b stands at 9: HIT by draws 74 and 24; SEEN by a draw of 52 below 100 less sees times how far
        String game = LAW + SNOW + TWO + "at 0 a flat b; referee ";
        SnowWalls x = Check.told(game + "19 sees 3");
        x.tenth();
        Check.due("out of 52 below 70", x.player(1, 3), 1);
        Check.due("MISSED", x.sum(4), 0);
        Check.due("SEED behind three draws", x.size(8), 28652);
        x = Check.told(game + "1 sees 6");
        x.tenth();
        Check.due("not out of 52 not below 52", x.player(1, 3), 0);
        Check.due("HITS", x.sum(3), 1);
        Check.due("MISSED", x.sum(4), 1);
        Check.due("over goes on", x.over(), 0);
        Check.due("SEED behind three draws", x.size(8), 28652);
        for (String sharp : new String[] {"19 sees 0", "9 sees 9"}) {
            x = Check.told(game + sharp);
            x.tenth();
            Check.due("out, referee " + sharp, x.player(1, 3), 1);
            Check.due("no draw, referee " + sharp, x.size(8), 5624);
        }
        // 12 off, 9 each: less than 0 counts 0, and that is drawn for all the same
        x = Check.told(LAW + SNOW + "player a of left at 1,15 arm 5 dodge 0 balls 2;"
            + "player b of right at 1,19 arm 0 dodge 3 balls 1; at 0 a flat b; referee 7 sees 9");
        x.tenth();
        Check.due("MISSED of 0", x.sum(4), 1);
        Check.due("SEED behind a draw for 0", x.size(8), 28652);
    }

    /** CHANCES of 1, PAIRED to the point, and a referee that sees 0 of a hundred or 1. */
    private static void narrowThrows() {
        // 70 - 3 * 23 is 1
        SnowWalls x = Check.told(LAW + SNOW + "player a of left at 0,0 arm 0 dodge 0 balls 1;"
            + "player b of right at 4,19 arm 0 dodge 0 balls 0;at 0 a high b");
        Check.due("CHANCE", x.chance(0, 1, true), 1);
        x.start(seedOfSecond(90, 0));
        x.tenth();
        Check.due("a draw of 0 is below 1", x.sum(3), 1);
        x.start(seedOfSecond(90, 1));
        x.tenth();
        Check.due("a draw of 1 isn't", x.sum(3), 0);
        // PAIRED: flat 95 - 16, whatever dodge is
        x = Check.told(LAW + SNOW + "player a of left at 1,5 arm 0 dodge 0 balls 1;"
            + "player c of left at 1,5 arm 0 dodge 0 balls 1; player b of right at 1,9 arm 0 dodge 9 balls 1;"
            + "at 0 a flat b;at 0 c high b");
        x.start(seedOfSecond(90, 78));
        x.tenth();
        Check.due("a draw of 78 is below 79", x.sum(0), 1);
        x.start(seedOfSecond(90, 79));
        x.tenth();
        Check.due("a draw of 79 isn't", x.sum(0), 2);
        narrowReferees();
    }

    private static void narrowReferees() {
        String two = LAW + SNOW + "player a of left at 1,15 arm 9 dodge 2 balls 2;"
            + "player b of right at 1,11 arm 0 dodge 0 balls 1; at 0 a flat b; referee 0 sees 9";
        SnowWalls x = Check.told(two);
        x.start(seedOfThird(0));
        x.tenth();
        Check.due("a draw of 0 is below 100 less 99", x.player(1, 3), 1);
        x.start(seedOfThird(1));
        x.tenth();
        Check.due("a draw of 1 isn't", x.sum(4), 1);
        x = Check.told(two.replace("1,11", "1,12"));
        x.start(seedOfThird(0));
        x.tenth();
        Check.due("a draw of 0 isn't below 0", x.sum(4), 1);
    }

    /** A seed whose first draw is below hold, and whose second is this. */
    private static int seedOfSecond(int hold, int draw) {
        for (int seed = 0; seed < 65537; seed++) {
            int first = (75 * seed + 74) % 65537;
            if (first % 100 < hold && (75 * first + 74) % 65537 % 100 == draw) {
                return seed;
            }
        }
        return -1;
    }

    /** A seed whose first draw is below 90, and whose third is this. */
    private static int seedOfThird(int draw) {
        for (int seed = 0; seed < 65537; seed++) {
            int first = (75 * seed + 74) % 65537;
            int second = (75 * first + 74) % 65537;
            if (first % 100 < 90 && (75 * second + 74) % 65537 % 100 == draw) {
                return seed;
            }
        }
        return -1;
    }

    private static void throwsThatDoNothing() {
        SnowWalls x = Check.told(LAW + SNOW + TWO + "player c of left at 1,1 arm 9 dodge 0 balls 0;"
            + "at 0 c flat b; at 0 a flat c; at 0 a high a; at 0 c high b");
        x.tenth();
        Check.due("nothing thrown without a ball, or at one's own SIDE", x.sum(0), 0);
        Check.due("balls", x.player(0, 1), 2);
        Check.due("SEED", x.size(8), 0);
        // at one that is out: the second throw isn't
        x = Check.told(LAW + SNOW + TWO + "player c of right at 4,19 arm 9 dodge 9 balls 0;at 0 a flat b; at 0 a flat b");
        x.tenth();
        Check.due("thrown", x.sum(0), 1);
        Check.due("balls", x.player(0, 1), 1);
        // no draw for a CHANCE of 0: FAR is 4 and 12
        x = Check.told(LAW + SNOW + "player a of left at 0,5 arm 0 dodge 0 balls 2;"
            + "player b of right at 4,17 arm 0 dodge 9 balls 1; at 0 a flat b");
        Check.due("CHANCE", x.chance(0, 1, false), 0);
        x.tenth();
        Check.due("thrown", x.sum(0), 1);
        Check.due("SEED behind one draw", x.size(8), 74);
    }

    private static void bits() {
        // HOLD 70 and less: the draw of 74 is it or more
        for (String wet : new String[] {"0", "1", "2", "3", "7", "8", "9"}) {
            SnowWalls x = Check.told(LAW + "snow 5 wet " + wet + " deep 2;" + TWO + "at 0 a flat b");
            x.tenth();
            Check.due("fell to bits, wet " + wet, x.sum(1), 1);
            Check.due("thrown, wet " + wet, x.sum(0), 1);
            Check.due("a ball less, wet " + wet, x.player(0, 1), 1);
            Check.due("HITS, wet " + wet, x.sum(3), 0);
            Check.due("SEED, wet " + wet, x.size(8), 74);
        }
        for (String wet : new String[] {"4", "5", "6"}) {
            SnowWalls x = Check.told(LAW + "snow 5 wet " + wet + " deep 2;" + TWO + "at 0 a flat b");
            x.tenth();
            Check.due("holds, wet " + wet, x.sum(1), 0);
            Check.due("HITS, wet " + wet, x.sum(3), 1);
        }
        // a draw of 70 is no less than a HOLD of 70
        int seed = 0;
        while ((75 * seed + 74) % 65537 % 100 != 70) {
            seed++;
        }
        SnowWalls x = Check.told(LAW + "snow 5 wet 7 deep 2;" + TWO + "at 0 a flat b");
        x.start(seed);
        x.tenth();
        Check.due("a draw of 70", x.sum(1), 1);
        seed = 0;
        while ((75 * seed + 74) % 65537 % 100 != 69) {
            seed++;
        }
        x.start(seed);
        x.tenth();
        Check.due("a draw of 69", x.sum(1), 0);
    }

    private static void walls() {
        String two = LAW + SNOW + TWO;
        SnowWalls x = Check.told(two + "block v of right at 1,6 strong 3; block w of left at 1,8 strong 1;"
            + "block u of left at 1,8 strong 2; at 0 a flat b; at 1 a flat b");
        x.tenth();
        Check.due("hit blocks", x.sum(2), 1);
        Check.due("the nearest, of like ones the first", x.block(1), 0);
        Check.due("the other like one", x.block(2), 2);
        Check.due("the one behind", x.block(0), 3);
        Check.due("HITS", x.sum(3), 0);
        Check.due("no draw but one", x.size(8), 74);
        Check.due("hidden by the next", x.hidden(0, 1), 2);
        x.start(0);
        x.tenth();
        x.tenth();
        Check.due("what stands no more hides no more", x.block(2), 1);
        // high goes over it; 24 is below 70 less 12 and 12, and 20 more
        x = Check.told(two + "block v of right at 1,6 strong 3; at 0 a high b");
        x.tenth();
        Check.due("high isn't HIDDEN", x.block(0), 3);
        Check.due("high HITS", x.sum(3), 1);
        // fallen to bits it hits no block
        x = Check.told(two.replace("wet 5", "wet 9") + "block v of right at 1,6 strong 3; at 0 a flat b");
        x.tenth();
        Check.due("bits hit no block", x.block(0), 3);
    }

    private static void wallsBetween() {
        String two = LAW + SNOW + TWO;
        for (String at : new String[] {"1,5", "1,9", "1,4", "1,10", "0,7", "2,7"}) {
            SnowWalls x = Check.told(two + "block v of right at " + at + " strong 3; at 0 a flat b");
            Check.due("hidden by one at " + at, x.hidden(0, 1), -2);
            Check.due("hidden the other way by one at " + at, x.hidden(1, 0), -2);
            x.tenth();
            Check.due("HITS past one at " + at, x.sum(3), 1);
        }
        // in the lane of the one at whom it is thrown, not of the one that throws
        SnowWalls x = Check.told(two.replace("left at 1,5", "left at 2,5") + "block v of right at 1,7 strong 3;"
            + "block w of right at 2,7 strong 3; at 0 a flat b; at 1 b flat a");
        x.tenth();
        Check.due("in the lane of q", x.block(0), 2);
        x.tenth();
        Check.due("in the lane of q, the other way", x.block(1), 2);
    }

    private static void ducking() {
        String two = LAW + SNOW + TWO;
        SnowWalls x = Check.told(two + "at 0 a flat b; at 0 b ducks");
        x.tenth();
        Check.due("flat at one that ducks", x.sum(3), 0);
        Check.due("thrown all the same", x.sum(0), 1);
        Check.due("no draw but one", x.size(8), 74);
        x = Check.told(two + "block v of left at 1,7 strong 3; at 0 a flat b; at 0 b ducks");
        x.tenth();
        Check.due("the block ahead of one that ducks", x.block(0), 2);
        x = Check.told(two + "at 1 b ducks; at 0 a flat b");
        x.tenth();
        Check.due("ducks in that tenth alone", x.sum(3), 1);
        x = Check.told(two + "at 0 b ducks; at 0 a flat b; at 1 a flat b");
        x.start(seedThatDraws(90, 80, 0));
        x.tenth();
        Check.due("ducks first", x.sum(3), 0);
        x.start(0);
        x.tenth();
        // SEED 74 draws 24 and 52
        x.tenth();
        Check.due("stands again then", x.sum(3), 1);
        // high: 70 less 3 times 19, 3 times 3 less, is 1; 15 more is 16; 2 arms: 24: not below; 3 arms more
        String far = LAW + SNOW + "player a of left at 0,1 arm 3 dodge 0 balls 2;"
            + "player b of right at 0,19 arm 0 dodge 1 balls 0; at 0 a high b";
        x = Check.told(far);
        Check.due("CHANCE", x.chance(0, 1, true), 24);
        x.tenth();
        Check.due("24 isn't below 24", x.sum(3), 0);
        x = Check.told(far + "; at 0 b ducks");
        x.tenth();
        Check.due("24 is below 39, as it ducks", x.sum(3), 1);
    }

    private static void paired() {
        // b's dodge 9 makes both CHANCES 0: a flat 95-16-54+0, c high 70-12-36; PAIRED 79 and 58
        String three = LAW + SNOW + "player a of left at 1,5 arm 0 dodge 0 balls 1;"
            + "player c of left at 1,5 arm 0 dodge 0 balls 1; player b of right at 1,9 arm 0 dodge 9 balls 1;";
        SnowWalls x = Check.told(three);
        Check.due("CHANCE flat", x.chance(0, 2, false), 25);
        Check.due("CHANCE high", x.chance(1, 2, true), 22);
        x = Check.told(three + "at 0 c high b");
        x.tenth();
        Check.due("24 isn't below 22", x.sum(3), 0);
        x = Check.told(three + "at 0 c high b; at 0 a flat b");
        x.tenth();
        Check.due("24 is below 58, PAIRED", x.sum(3), 1);
        Check.due("nothing more thrown at one that is out", x.sum(0), 1);
        x = Check.told(three + "at 0 a high b; at 0 a flat b");
        x.tenth();
        Check.due("PAIRED by one that is told both", x.sum(3), 1);
    }

    private static void pairedNot() {
        String three = LAW + SNOW + "player a of left at 1,5 arm 0 dodge 0 balls 0;"
            + "player c of left at 1,5 arm 0 dodge 0 balls 1; player b of right at 1,9 arm 0 dodge 9 balls 1;";
        SnowWalls x = Check.told(three + "at 0 c high b; at 0 a flat b");
        x.tenth();
        Check.due("not PAIRED by one without a ball", x.sum(3), 0);
        x = Check.told(three + "at 0 a makes; at 0 c high b; at 0 a flat b");
        x.tenth();
        Check.due("the ball must be there as the TENTH begins", x.sum(3), 0);
        Check.due("thrown", x.sum(0), 2);
        x = Check.told(three + "player d of right at 1,9 arm 1 dodge 1 balls 1; at 0 c high b; at 0 d flat b");
        x.tenth();
        Check.due("not PAIRED by one of its SIDE", x.sum(3), 0);
        x = Check.told(three + "at 0 c high b; at 0 c high b");
        x.tenth();
        Check.due("not PAIRED by two high ones", x.sum(3), 0);
        // not by what was told for the TENTH before: c's two high ones, a's flat one hits the block
        x = Check.told(three.replace("balls 0", "balls 1").replace("dodge 0 balls 1; player b", "dodge 0 balls 2; player b")
            + "player d of right at 4,19 arm 1 dodge 1 balls 1; block w of right at 1,7 strong 1;"
            + "at 0 a flat b; at 1 c high b");
        x.start(seedThatDrawsTwo(90, 58, 22));
        x.tenth();
        Check.due("hit blocks", x.sum(2), 1);
        x.tenth();
        Check.due("not PAIRED by what was told before", x.sum(3), 0);
        // TENTH 0: b hits a; TENTH 1: a, that is out, is told flat, so that c's CHANCE is 22 and not 58
        x = Check.told(three.replace("balls 0", "balls 1").replace("right at 1,9 arm 0", "right at 1,9 arm 9")
            + "at 0 b flat a; at 1 c high b; at 1 a flat b");
        int seed = seedThatDraws(90, 58, 22);
        x.start(seed);
        x.tenth();
        Check.due("a is out", x.player(0, 3), 1);
        x.tenth();
        Check.due("thrown", x.sum(0), 2);
        Check.due("held", x.sum(1), 0);
        Check.due("not PAIRED by one that is out", x.sum(3), 1);
    }

    /** A seed whose first and third draw are below hold, and whose fourth is below high, but not below low. */
    private static int seedThatDraws(int hold, int high, int low) {
        for (int seed = 0; seed < 65537; seed++) {
            int first = (75 * seed + 74) % 65537;
            int second = (75 * first + 74) % 65537;
            int third = (75 * second + 74) % 65537;
            int fourth = (75 * third + 74) % 65537 % 100;
            if (first % 100 < hold && third % 100 < hold && fourth < high && fourth >= low) {
                return seed;
            }
        }
        return -1;
    }

    /** A seed whose first and second draw are below hold, and whose third is below high, but not below low. */
    private static int seedThatDrawsTwo(int hold, int high, int low) {
        for (int seed = 0; seed < 65537; seed++) {
            int first = (75 * seed + 74) % 65537;
            int second = (75 * first + 74) % 65537;
            int third = (75 * second + 74) % 65537 % 100;
            if (first % 100 < hold && second % 100 < hold && third < high && third >= low) {
                return seed;
            }
        }
        return -1;
    }

    private static void making() {
        String one = "player a of left at 1,5 arm 5 dodge 0 balls #;player b of right at 1,9 arm 0 dodge 3 balls 1;"
            + "at 0 a makes; at 0 a makes";
        SnowWalls x = Check.told(LAW + SNOW + one.replace("#", "0"));
        x.tenth();
        Check.due("made", x.player(0, 1), 2);
        x = Check.told(LAW + SNOW + one.replace("#", "2"));
        x.tenth();
        Check.due("made up to carry", x.player(0, 1), 3);
        x = Check.told(LAW + SNOW + one.replace("#", "9"));
        x.tenth();
        Check.due("had beyond carry", x.player(0, 1), 9);
        for (String snow : new String[] {"snow 5 wet 1 deep 9;", "snow 5 wet 0 deep 9;", "snow 5 wet 5 deep 0;"}) {
            x = Check.told(LAW + snow + one.replace("#", "0"));
            x.tenth();
            Check.due("made of " + snow, x.player(0, 1), 0);
        }
        x = Check.told(LAW + "snow 5 wet 9 deep 1;" + one.replace("#", "0"));
        x.tenth();
        Check.due("made of little", x.player(0, 1), 2);
    }

    private static void rolling() {
        String three = LAW + SNOW + "player a of left at 1,5 arm 0 dodge 0 balls 2;"
            + "player b of left at 4,19 arm 0 dodge 0 balls 2; player c of right at 1,9 arm 9 dodge 9 balls 1;";
        SnowWalls x = Check.told(three + "at 0 a rolls b; at 0 a rolls b; at 0 a rolls a; at 0 a rolls c");
        x.tenth();
        Check.due("a ball rolled away", x.player(0, 1), 1);
        Check.due("a ball more, as far as carry allows", x.player(1, 1), 3);
        Check.due("none to the other SIDE", x.player(2, 1), 1);
        x = Check.told(three.replace("0 balls 2; player c", "0 balls 0; player c") + "at 0 b rolls a; at 0 a rolls b");
        x.tenth();
        Check.due("none rolled of none", x.player(1, 1), 1);
        // b, hit, is out: HOLD 90 of 74; CHANCE of c at b flat 95 less 4 times 13 and 45 more: 24 is below
        x = Check.told(three + "at 0 c flat b; at 0 a rolls b");
        x.tenth();
        Check.due("b is out", x.player(1, 3), 1);
        Check.due("none to one that is out", x.player(1, 1), 2);
        x = Check.told(three + "at 0 a rolls a");
        x.tenth();
        Check.due("none to itself", x.player(0, 1), 2);
        x = Check.told(three.replace("0 balls 2; player c", "0 balls 1; player c") + "at 0 b rolls a");
        x.tenth();
        Check.due("the last ball too", x.player(1, 1), 0);
        Check.due("the last ball too", x.player(0, 1), 3);
    }

    private static void going() {
        SnowWalls x = Check.told("law carry 3 line 8 tenths 99 thaws 0;" + SNOW
            + "player a of left at 1,6 arm 0 dodge 0 balls 2; player b of right at 1,13 arm 0 dodge 0 balls 2;"
            + "at 0 a goes; at 0 a goes; at 0 a goes; at 0 b goes; at 0 b goes; at 0 b goes;"
            + "at 49 a goes; at 49 b goes; at 50 a goes; at 50 b goes");
        x.tenth();
        Check.due("up to the line", x.player(0, 0), 8);
        Check.due("down to 19 less line", x.player(1, 0), 11);
        for (int i = 1; i < 50; i++) {
            x.tenth();
        }
        Check.due("twice 49 is below 99", x.player(0, 0), 8);
        Check.due("twice 49 is below 99", x.player(1, 0), 11);
        x.tenth();
        Check.due("twice 50 isn't", x.player(0, 0), 9);
        Check.due("twice 50 isn't", x.player(1, 0), 10);
        // beyond the line from the beginning
        x = Check.told(LAW + SNOW + "player a of left at 1,12 arm 0 dodge 0 balls 2;"
            + "player b of right at 1,3 arm 0 dodge 0 balls 2; at 0 a goes; at 0 b goes; at 3 a goes; at 3 b goes");
        x.tenth();
        Check.due("no farther beyond the line", x.player(0, 0), 12);
        Check.due("no farther beyond the line", x.player(1, 0), 3);
        x.tenth();
        x.tenth();
        x.tenth();
        Check.due("twice 3 isn't below 6", x.player(0, 0), 13);
        Check.due("twice 3 isn't below 6", x.player(1, 0), 2);
    }

    private static void goingOnceInTheFirstHalf() {
        SnowWalls x = Check.told("law carry 3 line 0 tenths 2 thaws 0;" + SNOW
            + "player a of left at 1,0 arm 0 dodge 0 balls 2; player b of right at 1,19 arm 0 dodge 0 balls 2;"
            + "at 0 a goes; at 0 b goes; at 1 a goes; at 1 b goes");
        x.tenth();
        Check.due("line 0", x.player(0, 0), 0);
        Check.due("line 0", x.player(1, 0), 19);
        x.tenth();
        Check.due("twice 1 isn't below 2", x.player(0, 0), 1);
        Check.due("twice 1 isn't below 2", x.player(1, 0), 18);
    }

    private static void winning() {
        String ends = "law carry 3 line 8 tenths 1 thaws 0;" + SNOW;
        // tenths 1: twice 0 is below 1, so the line holds; tenths 3: behind TENTH 1 it doesn't
        ends = ends.replace("tenths 1", "tenths 3");
        String two = "player a of left at 1,18 arm 0 dodge 0 balls 2; player b of right at 1,1 arm 0 dodge 0 balls 2;"
            + "player c of right at 1,1 arm 0 dodge 0 balls 2;";
        SnowWalls x = Check.told(ends + two + "at 2 a goes");
        Check.due("finish", x.finish(), 3);
        Check.due("winner: who WON, not who has more", x.winner(), 0);
        x = Check.told(ends + two + "at 2 b goes; at 2 a goes; at 2 a makes");
        x.finish();
        Check.due("winner: the first, by LINES", x.winner(), 1);
        Check.due("the rest is done all the same", x.player(0, 0), 19);
        Check.due("the rest is done all the same", x.player(0, 1), 3);
        String longer = ends.replace("tenths 3", "tenths 9");
        x = Check.told(longer + two + "at 5 a goes");
        Check.due("OVER behind the TENTH in which a SIDE WON", x.finish(), 6);
        Check.due("over", x.over(), 1);
        x = Check.told(longer + two.replace("at 1,18", "at 1,19") + "at 5 a goes");
        Check.due("at 19 from the beginning it doesn't come there", x.finish(), 9);
        Check.due("not beyond 19", x.player(0, 0), 19);
        Check.due("winner", x.winner(), 1);
        x = Check.told(longer + two.replace("right at 1,1 ", "right at 1,0 ") + "at 5 b goes");
        Check.due("at 0 from the beginning it doesn't come there", x.finish(), 9);
        Check.due("not beyond 0", x.player(1, 0), 0);
        x = Check.told(longer + two + "at 5 b goes");
        x.finish();
        x.start(0);
        x.tenth();
        Check.due("nobody WON in a new GAME", x.over(), 0);
        Check.due("x in a new GAME", x.player(1, 0), 1);
    }

    private static void outDoesNothing() {
        String acts = "at 0 a flat b; at 1 b makes; at 1 b goes; at 1 b flat a; at 1 b rolls c; at 0 b makes";
        SnowWalls x = Check.told(LAW + SNOW + TWO + "player c of right at 4,12 arm 0 dodge 0 balls 1;" + acts);
        x.tenth();
        Check.due("b is out", x.player(1, 3), 1);
        Check.due("makes nothing, in the very TENTH", x.player(1, 1), 1);
        x.tenth();
        Check.due("makes nothing", x.player(1, 1), 1);
        Check.due("goes nowhere", x.player(1, 0), 9);
        Check.due("throws nothing", x.sum(0), 1);
        Check.due("rolls nothing", x.player(2, 1), 1);
        Check.due("over", x.over(), 0);
        Check.due("led(0)", x.led(0), 1);
    }

    private static void sums() {
        SnowWalls x = Check.told(LAW + SNOW + TWO);
        for (int what = 0; what <= 4; what++) {
            Check.due("sum(" + what + ")", x.sum(what), 0);
        }
        Check.due("trouble", x.trouble(), 0);
        Check.refused(x, "sum(5)", x.sum(5), 1);
        Check.refused(x, "sum(-1)", x.sum(-1), 1);
        // 74 24 misses at a CHANCE of 10; 52 90: HOLD 90 of 90: to bits
        x = Check.told(LAW + SNOW + "player a of left at 0,0 arm 0 dodge 0 balls 3;"
            + "player b of right at 2,18 arm 3 dodge 0 balls 1; block w of left at 2,3 strong 3;"
            + "at 0 a high b; at 0 a flat b; at 0 a high b");
        x.tenth();
        Check.due("thrown", x.sum(0), 3);
        Check.due("hit blocks", x.sum(2), 1);
        Check.due("fell to bits", x.sum(1), 1);
        Check.due("block", x.block(0), 2);
        Check.due("thrown by a", x.player(0, 2), 3);
    }

    private static void holdAndBestHour() {
        int[] holds = {0, 0, 40, 40, 90, 90, 90, 70, 70, 20};
        for (int wet = 0; wet <= 9; wet++) {
            SnowWalls x = Check.told(LAW + "snow 7 wet " + wet + " deep 0;" + TWO);
            Check.due("hold of wet " + wet, x.hold(7), holds[wet]);
            Check.due("trouble", x.trouble(), 0);
            Check.refused(x, "hold(8)", x.hold(8), 1);
            Check.refused(x, "hold(-1)", x.hold(-1), 1);
        }
        bestHour("snow 7 wet 9 deep 9; snow 8 wet 2 deep 0; snow 9 wet 0 deep 9", 8);
        bestHour("snow 7 wet 4 deep 8; snow 8 wet 5 deep 9; snow 9 wet 8 deep 9", 8);
        bestHour("snow 7 wet 4 deep 8; snow 5 wet 5 deep 8; snow 6 wet 6 deep 8", 5);
        bestHour("snow 7 wet 5 deep 9; snow 8 wet 2 deep 1; snow 7 wet 0 deep 9", 8);
        bestHour("snow 7 wet 0 deep 0", 7);
        SnowWalls x = Check.told(LAW + "snow 7 wet 5 deep 9; snow 7 wet 9 deep 9;" + TWO);
        Check.due("hold of like hours", x.hold(7), 20);
    }

    private static void bestHour(String snows, int best) {
        SnowWalls x = Check.told(LAW + snows + ";" + TWO);
        Check.due("bestHour of " + snows, x.bestHour(), best);
        Check.due("trouble", x.trouble(), 0);
    }

    private static void marks() {
        SnowWalls x = Check.told(LAW + SNOW + "snow 6 wet 9 deep 1; referee 1 sees 6;" + TWO
            + "block w of left at 1,7 strong 2; at 0 a flat b; at 1 b goes; at 1 b flat a; at 3 b goes");
        Check.refused(x, "back(0)", x.back(0), 1);
        x.tenth();
        Check.due("mark", x.mark(), 0);
        x.tenth();
        x.hour(6);
        Check.due("mark", x.mark(), 1);
        x.see(1);
        x.tenth();
        x.start(77);
        Check.due("mark", x.mark(), 2);
        Check.due("MARKS", x.size(10), 3);
        Check.due("back", x.back(0), true);
        Check.due("trouble", x.trouble(), 0);
        Check.due("TENTHS", x.size(7), 1);
        Check.due("SEED", x.size(8), 74);
        Check.due("HOUR", x.size(9), 5);
        Check.due("balls", x.player(0, 1), 1);
        Check.due("thrown", x.player(0, 2), 1);
        Check.due("strong", x.block(0), 1);
        Check.due("sum", x.sum(2), 1);
        Check.due("x", x.player(1, 0), 9);
        Check.due("MARKS stay", x.size(10), 3);
        Check.due("SEEN stays", x.size(11), 1);
        Check.due("back", x.back(1), true);
        Check.due("HOUR", x.size(9), 6);
        Check.due("TENTHS", x.size(7), 2);
        Check.due("back", x.back(2), true);
        Check.due("SEED", x.size(8), 77);
        Check.refused(x, "back(3)", x.back(3), 1);
        Check.refused(x, "back(-1)", x.back(-1), 1);
        Check.due("mark", x.mark(), 3);
        Check.refused(x, "mark of a fifth", x.mark(), 3);
        Check.due("MARKS", x.size(10), 4);
        // x, of a GAME in its second half
        x.back(0);
        x.tenth();
        x.tenth();
        x.tenth();
        Check.due("x", x.player(1, 0), 8);
        x.back(0);
        Check.due("x by a MARK", x.player(1, 0), 9);
        // a MARK isn't touched by what is done behind it
        x.finish();
        x.back(3);
        Check.due("TENTHS of the MARK", x.size(7), 0);
        marksOfEnds();
    }

    private static void marksOfEnds() {
        SnowWalls x = Check.told("law carry 3 line 8 tenths 9 thaws 0;" + SNOW
            + "player a of left at 1,18 arm 0 dodge 0 balls 2; player b of right at 1,9 arm 0 dodge 0 balls 2;"
            + "player c of right at 1,9 arm 0 dodge 0 balls 2; at 5 a goes");
        x.finish();
        x.mark();
        x.start(0);
        Check.due("over", x.over(), 0);
        x.back(0);
        Check.due("over by a MARK", x.over(), 1);
        Check.due("winner by a MARK", x.winner(), 0);
        x = Check.told(LAW + SNOW + TWO + "at 0 a flat b");
        x.mark();
        x.tenth();
        x.mark();
        x.back(0);
        Check.due("led(0) throws by a MARK", Check.ledThrows(x, 0), true);
        x.back(1);
        Check.due("led(0) by a MARK", x.led(0), 1);
    }

    private static void leagues() {
        // left wins if 75 SEED and 74 draws below 90 and the next below 86
        SnowWalls x = Check.told(LAW + SNOW + TWO + "at 0 a flat b");
        for (int seed : new int[] {0, 1, 500, 65530, 65536}) {
            for (int n : new int[] {1, 2, 17, 60}) {
                int won = 0;
                for (int i = 0; i < n; i++) {
                    int first = (75 * ((seed + i) % 65537) + 74) % 65537;
                    won += first % 100 < 90 && (75 * first + 74) % 65537 % 100 < 86 ? 1 : 0;
                }
                x.start(seed);
                Check.due("wins(0, " + n + ") of " + seed, x.wins(0, n), won);
                Check.due("wins(1, " + n + ") of " + seed, x.wins(1, n), 0);
                Check.due("wins(2, " + n + ") of " + seed, x.wins(2, n), n - won);
                Check.due("fair(" + n + ") of " + seed, x.fair(n), won);
                Check.due("SEED", x.size(8), seed);
            }
        }
        Check.due("trouble", x.trouble(), 0);
        x.start(0);
        x.tenth();
        // SEED is 5,624 now, which draws 52 and 90
        Check.due("wins from the beginning, with SEED as it is", x.wins(0, 1), 0);
        Check.due("TENTHS", x.size(7), 1);
        Check.due("out", x.player(1, 3), 1);
        Check.refused(x, "wins(3, 1)", x.wins(3, 1), 1);
        Check.refused(x, "wins(-1, 0)", x.wins(-1, 0), 1);
        Check.refused(x, "wins(0, 0)", x.wins(0, 0), 2);
        Check.refused(x, "wins(0, 61)", x.wins(0, 61), 2);
        x.over();
        Check.refused(x, "fair(0)", x.fair(0), -1000, 2);
        x.over();
        Check.refused(x, "fair(61)", x.fair(61), -1000, 2);
        x = new SnowWalls();
        Check.refused(x, "fair(0) without a MATCH", x.fair(0), -1000, 1);
    }

    private static void leaguesInTheHour() {
        SnowWalls x = Check.told(LAW + SNOW + "snow 6 wet 0 deep 1;player b of right at 1,9 arm 5 dodge 3 balls 1;"
            + "player a of left at 1,5 arm 5 dodge 0 balls 2; at 0 b flat a");
        Check.due("wins in HOUR 5", x.wins(1, 1), 1);
        Check.due("fair in HOUR 5", x.fair(1), -1);
        x.hour(6);
        Check.due("wins in HOUR 6", x.wins(1, 60), 0);
        Check.due("wins in HOUR 6", x.wins(2, 60), 60);
        Check.due("fair in HOUR 6", x.fair(60), 0);
        Check.due("HOUR", x.size(9), 6);
    }

    private static void thaws() {
        String game = "law carry 3 line 8 tenths 9 thaws 2;snow 5 wet 7 deep 1;"
            + "player a of left at 1,5 arm 0 dodge 0 balls 0; player b of right at 2,9 arm 9 dodge 0 balls 1;"
            + "block s of left at 1,6 strong 5; block t of right at 2,8 strong 5; block u of left at 2,10 strong 5;"
            + "block v of right at 1,4 strong 5; block w of left at 2,6 strong 1";
        SnowWalls x = Check.told(game);
        x.tenth();
        Check.due("no thaw behind the first", x.block(0), 5);
        x.tenth();
        Check.due("LEANT on, of left", x.block(0), 3);
        Check.due("LEANT on, of right", x.block(1), 3);
        Check.due("not LEANT on by the other SIDE", x.block(2), 4);
        Check.due("not LEANT on by the other SIDE", x.block(3), 4);
        Check.due("0", x.block(4), 0);
        x.tenth();
        x.tenth();
        Check.due("LEANT on", x.block(0), 1);
        Check.due("stays 0", x.block(4), 0);
        x.finish();
        Check.due("0 at least", x.block(0), 0);
        Check.due("four thaws in nine TENTHS", x.block(2), 1);
        x = Check.told(game.replace("wet 7", "wet 6"));
        x.finish();
        Check.due("no thaw of wet 6", x.block(0), 5);
        x = Check.told(game.replace("thaws 2", "thaws 0"));
        x.finish();
        Check.due("no thaw of thaws 0", x.block(0), 5);
        x = Check.told(game.replace("thaws 2", "thaws 1") + "; at 0 a goes");
        x.tenth();
        Check.due("behind what is done: no more LEANT on", x.block(0), 4);
        // one that is out leans no more: of seed 0 the draw of 74 falls to bits, seed 1 draws 49 and 49
        x = Check.told(game.replace("thaws 2", "thaws 1") + "; at 0 b high a");
        x.start(1);
        x.tenth();
        Check.due("a is out", x.player(0, 3), 1);
        Check.due("no more LEANT on", x.block(0), 4);
    }
}
