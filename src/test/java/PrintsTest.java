/** Promises 38 to 43, 45 and 46: ways, who, see, likely, learn, next, size, trouble. */
public final class PrintsTest {
    private static final String LAW = "law carry 3 line 8 tenths 20 thaws 3;snow 5 wet 5 deep 2;snow 6 wet 8 deep 2;";
    private static final String FOUR = LAW + "player a of left at 1,5 arm 5 dodge 2 balls 5;"
        + "player b of left at 1,8 arm 1 dodge 3 balls 0;player c of right at 1,5 arm 0 dodge 9 balls 1;"
        + "player d of left at 2,5 arm 0 dodge 9 balls 1;";

    private PrintsTest() {
    }

    public static void main(String[] args) {
        ways();
        waysOfMany();
        who();
        printsAsTheGameIs();
        see();
        likely();
        learn();
        next();
        size();
        trouble();
        Check.done();
    }

    private static void ways() {
        SnowWalls x = Check.told(FOUR);
        Check.due("no prints", x.ways(0), 1);
        x = Check.told(FOUR + "print of left at 1,6");
        int[] due = {0, 1, 2, 2};
        for (int d = 0; d < due.length; d++) {
            Check.due("one print, off by " + d, x.ways(d), due[d]);
        }
        x = Check.told(FOUR + "print of left at 1,6;print of left at 1,6");
        Check.due("two prints of one", x.ways(1), 0);
        Check.due("two prints of two", x.ways(2), 2);
        x = Check.told(FOUR + "print of left at 1,6;print of left at 1,4");
        Check.due("one way", x.ways(3), 1);
        Check.due("two ways", x.ways(4), 2);
        x = Check.told(FOUR + "print of right at 1,5;print of left at 2,5");
        Check.due("by SIDE and lane", x.ways(0), 1);
        Check.due("by SIDE and lane, off by 19", x.ways(19), 1);
        x = Check.told(FOUR + "print of right at 2,5");
        Check.due("nobody's", x.ways(19), 0);
        Check.due("trouble", x.trouble(), 0);
        Check.refused(x, "ways(-1)", x.ways(-1), 2);
        Check.refused(x, "ways(20)", x.ways(20), 2);
    }

    private static void waysOfMany() {
        StringBuilder text = new StringBuilder("law carry 3 line 8 tenths 20 thaws 3;snow 5 wet 5 deep 2");
        for (int i = 0; i < 8; i++) {
            text.append(";player p").append((char) ('a' + i)).append(" of right at 3,").append(2 * i)
                .append(" arm 1 dodge 1 balls 1");
        }
        for (int i = 0; i < 6; i++) {
            text.append(";print of right at 3,").append(2 * i);
        }
        SnowWalls x = Check.told(text.toString());
        Check.due("each its own", x.ways(0), 1);
        Check.due("six of eight", x.ways(19), 8 * 7 * 6 * 5 * 4 * 3);
        Check.due("who of all", x.who(5, 19), 255);
        Check.due("who off by 2", x.who(1, 2), 7);
        Check.due("who off by 0", x.who(1, 0), 2);
    }

    private static void who() {
        SnowWalls x = Check.told(FOUR + "print of left at 1,6;print of left at 1,4;print of right at 1,5");
        Check.due("the second is a's, so the first is b's", x.who(0, 3), 2);
        Check.due("the second", x.who(1, 3), 1);
        Check.due("either", x.who(0, 4), 3);
        Check.due("either", x.who(1, 4), 3);
        Check.due("c's", x.who(2, 4), 4);
        Check.due("nobody's, since the second and first are one's", x.who(2, 1), 0);
        Check.due("trouble", x.trouble(), 0);
        Check.refused(x, "who(3, 0)", x.who(3, 0), 1);
        Check.refused(x, "who(-1, -1)", x.who(-1, -1), 1);
        Check.refused(x, "who(0, -1)", x.who(0, -1), 2);
        Check.refused(x, "who(0, 20)", x.who(0, 20), 2);
    }

    private static void printsAsTheGameIs() {
        SnowWalls x = Check.told(FOUR + "print of left at 1,6;print of right at 1,4;at 0 a goes;at 0 a goes;at 0 c goes;"
            + "at 11 a goes; at 11 c goes");
        Check.due("at first", x.ways(0), 0);
        x.tenth();
        Check.due("a at 7 has passed 6; c may not pass the line", x.player(0, 0), 7);
        Check.due("c stays", x.player(2, 0), 5);
        Check.due("off by 1", x.ways(1), 1);
        Check.due("whose", x.who(0, 1), 1);
        x.finish();
        Check.due("c at 4", x.player(2, 0), 4);
        Check.due("off by 0", x.ways(0), 1);
        Check.due("c's", x.who(1, 0), 4);
        x.start(0);
        Check.due("from the beginning", x.ways(0), 0);
    }

    private static void see() {
        SnowWalls x = Check.told(FOUR);
        for (int i = 1; i <= 14; i++) {
            Check.due("see", x.see(i % 3), i);
        }
        Check.due("trouble", x.trouble(), 0);
        Check.refused(x, "see(3)", x.see(3), 2);
        Check.refused(x, "see(-1)", x.see(-1), 2);
        Check.refused(x, "see of a fifteenth", x.see(0), 3);
        Check.due("SEEN", x.size(11), 14);
    }

    private static void likely() {
        SnowWalls x = Check.told(FOUR + "guess g weighs 7 flat 5 high 2;guess h weighs 99 flat 10 high 0;"
            + "guess i weighs 2 flat 0 high 0");
        Check.makeTrouble(x);
        Check.due("nothing SEEN", x.likely(0), 7);
        Check.due("trouble", x.trouble(), 0);
        x.see(0);
        Check.due("flat", x.likely(0), 35);
        x.see(1);
        Check.due("high", x.likely(0), 70);
        Check.due("never high", x.likely(1), 0);
        x.see(2);
        Check.due("else", x.likely(0), 210);
        Check.due("trouble", x.trouble(), 0);
        Check.refused(x, "likely(3)", x.likely(3), 1);
        Check.refused(x, "likely(-1)", x.likely(-1), 1);
        x = Check.told(FOUR + "guess h weighs 99 flat 10 high 0");
        for (int i = 0; i < 14; i++) {
            x.see(0);
        }
        Check.due("the most", x.likely(0), 9900000000000000L);
    }

    private static void learn() {
        SnowWalls x = Check.told(FOUR + "guess g weighs 7 flat 5 high 2;guess h weighs 8 flat 6 high 0;"
            + "guess i weighs 8 flat 0 high 10;guess j weighs 1 flat 10 high 0");
        Check.due("the first of like ones", x.learn(), 1);
        x.see(1);
        Check.due("high", x.learn(), 2);
        x.see(0);
        Check.due("flat and high", x.learn(), 0);
        x.see(2);
        Check.due("and else", x.learn(), 0);
        Check.due("trouble", x.trouble(), 0);
        x = Check.told(FOUR + "guess g weighs 7 flat 0 high 2;guess h weighs 8 flat 0 high 0");
        x.see(0);
        Check.due("all 0: the first", x.learn(), 0);
        // beyond what an int holds
        x = Check.told(FOUR + "guess g weighs 98 flat 10 high 0;guess h weighs 99 flat 10 high 0");
        for (int i = 0; i < 14; i++) {
            x.see(0);
        }
        Check.due("of large ones", x.learn(), 1);
        x = Check.told(FOUR);
        Check.refused(x, "learn without a guess", x.learn(), 6);
    }

    private static void next() {
        next("flat 5 high 2", 0);
        next("flat 2 high 5", 1);
        next("flat 2 high 3", 2);
        next("flat 5 high 5", 0);
        next("flat 5 high 0", 0);
        next("flat 2 high 4", 1);
        next("flat 0 high 0", 2);
        SnowWalls x = Check.told(FOUR + "guess g weighs 7 flat 5 high 2;guess h weighs 9 flat 1 high 7");
        Check.due("of that most LIKELY", x.next(), 1);
        x.see(0);
        Check.due("of that most LIKELY then", x.next(), 0);
        x = Check.told(FOUR);
        Check.refused(x, "next without a guess", x.next(), 6);
    }

    private static void next(String guess, int act) {
        SnowWalls x = Check.told(FOUR + "guess g weighs 7 " + guess);
        Check.due("next of " + guess, x.next(), act);
        Check.due("trouble", x.trouble(), 0);
    }

    private static void size() {
        SnowWalls x = Check.told(FOUR + "block w of left at 1,2 strong 1;block v of left at 1,2 strong 1;"
            + "site s of left at 1,2 takes 1;print of left at 1,2;print of left at 1,2;print of left at 1,2;"
            + "guess g weighs 1 flat 1 high 1;guess h weighs 1 flat 1 high 1;snow 6 wet 1 deep 1;"
            + "at 0 a makes;at 0 a makes;at 0 a makes;at 0 a makes;at 1 a makes");
        int[] due = {4, 2, 1, 3, 2, 5, 3, 0, 0, 5, 0, 0, 0};
        for (int what = 0; what < due.length; what++) {
            Check.due("size(" + what + ")", x.size(what), due[what]);
        }
        x.start(9);
        x.hour(6);
        x.tenth();
        x.mark();
        x.see(1);
        x.see(1);
        Check.feed(x, "law");
        int[] then = {1, 9, 6, 1, 2, 20};
        for (int what = 7; what <= 12; what++) {
            Check.due("size(" + what + ") then", x.size(what), then[what - 7]);
        }
        Check.due("size(13)", x.size(13), -1);
        Check.due("size(-1)", x.size(-1), -1);
        Check.due("trouble, which size leaves", x.trouble(), 0);
    }

    private static void trouble() {
        SnowWalls x = new SnowWalls();
        Check.due("at first", x.trouble(), 0);
        x.tenth();
        Check.due("none such", x.trouble(), 1);
        x.size(99);
        x.feed(0, 0, 0, 0, 0);
        x.fault();
        x.where();
        Check.ledThrows(x, 0);
        x.trouble();
        Check.due("calls that tell no number leave it", x.trouble(), 1);
        x.match(-1);
        Check.due("a number", x.trouble(), 2);
        x.match(20);
        Check.due("a FAULT", x.trouble(), 4);
        Check.match(x, FOUR + "print of left at 1,2");
        Check.due("it wasn't refused", x.trouble(), 0);
        x.winner();
        Check.due("not so", x.trouble(), 5);
        x.learn();
        Check.due("there is none", x.trouble(), 6);
        for (int i = 0; i < 5; i++) {
            x.mark();
        }
        Check.due("no room", x.trouble(), 3);
        x.over();
        Check.due("it wasn't refused", x.trouble(), 0);
    }
}
