/** Promises 1 to 5: a new object, feed, match, fault, where. */
public final class TextTest {
    private static final String LAW = "law carry 1 line 1 tenths 1 thaws 1";
    private static final String SNOW = "snow 1 wet 1 deep 1";
    private static final String PLAYER = "player p of left at 1,2 arm 1 dodge 1 balls 1";
    private static final String WHOLE = LAW + ";" + SNOW + ";" + PLAYER;

    private TextTest() {
    }

    public static void main(String[] args) {
        promise1();
        promise1Refusals();
        promise2();
        promise3();
        promise3Beginning();
        promise3Anew();
        promise4();
        promise5();
        tokens();
        forms();
        names();
        bounds();
        many();
        lacks();
        Check.done();
    }

    private static void promise1() {
        SnowWalls x = new SnowWalls();
        for (int what = 0; what <= 12; what++) {
            Check.due("size(" + what + ") of a new object", x.size(what), 0);
        }
        Check.due("NONE", SnowWalls.NONE, -1);
        Check.due("trouble of a new object", x.trouble(), 0);
        Check.due("fault of a new object", x.fault(), 0);
        Check.due("where of a new object", x.where(), -1);
        Check.due("led(0) of a new object throws", Check.ledThrows(x, 0), true);
    }

    private static void promise1Refusals() {
        SnowWalls x = new SnowWalls();
        long[] answers = {x.tenth(), x.finish(), x.over(), x.winner(), x.player(0, 0), x.block(0), x.left(0), x.sum(0),
            x.hold(0), x.bestHour(), x.mark(), x.wins(0, 1), x.chance(0, 1, true), x.hidden(0, 1), x.odds(0, 1, true),
            x.pair(0, 1, 2), x.gain(0, 1, 2), x.hides(0), x.build(0, 0), x.least(0, 1), x.most(0, 1), x.mix(0, 1),
            x.rests(0, 1), x.supply(0, 0), x.stands(0, 0), x.falls(0), x.ways(0), x.who(0, 0), x.see(0), x.likely(0),
            x.learn(), x.next()};
        for (int i = 0; i < answers.length; i++) {
            Check.due("call " + i + " without a MATCH", answers[i], -1);
        }
        Check.refused(x, "start(0) without a MATCH", x.start(0), 1);
        Check.refused(x, "hour(0) without a MATCH", x.hour(0), 1);
        Check.refused(x, "back(0) without a MATCH", x.back(0), 1);
        Check.refused(x, "fair(1) without a MATCH", x.fair(1), -1000, 1);
        Check.refused(x, "start(-1) without a MATCH", x.start(-1), 1);
        Check.refused(x, "wins(0, 0) without a MATCH", x.wins(0, 0), 1);
        Check.refused(x, "see(9) without a MATCH", x.see(9), 1);
        Check.refused(x, "ways(99) without a MATCH", x.ways(99), 1);
        Check.refused(x, "learn() without a MATCH", x.learn(), 1);
        Check.refused(x, "next() without a MATCH", x.next(), 1);
    }

    private static void promise2() {
        SnowWalls x = new SnowWalls();
        for (int i = 1; i <= 45; i++) {
            Check.due("feed " + i, x.feed(i, i, i, i, i), 20 * i);
        }
        x.dash(0, 0, 0);
        Check.due("feed 46", x.feed(0, 0, 0, 0, 0), -1);
        Check.due("bytes behind feed 46", x.size(12), 900);
        Check.due("trouble behind feed 46, which tells no number", x.trouble(), 2);
        // of each number the highest first, of negative ones too: "law " is 0x6c617720
        x = new SnowWalls();
        x.feed(0x6c617720, 0x63617272, 0x79203120, 0x6c696e65, 0x20312074);
        x.feed(0xffffffff, 0, 0, 0, 0);
        x.match(40);
        Check.due("fault of a text with byte 255", x.fault(), 1);
        // the t that stands ahead of it is no WORD that may stand there
        Check.due("where of a text with byte 255", x.where(), 19);
        x.feed(0x20202020, 0x202020fe, 0x20202020, 0x20202020, 0x20202020);
        x.match(20);
        Check.due("where of a text with byte 254", x.where(), 7);
        Check.due("match of a whole text", Check.match(x, WHOLE), 1);
    }

    private static void promise3() {
        SnowWalls x = new SnowWalls();
        int n = Check.feed(x, WHOLE);
        int bytes = x.size(12);
        Check.refused(x, "match(-1)", x.match(-1), 2);
        Check.due("bytes behind match(-1)", x.size(12), bytes);
        Check.refused(x, "match of more than there is", x.match(bytes + 1), 2);
        Check.due("bytes behind match of more", x.size(12), bytes);
        Check.due("match of all, the blanks too", x.match(bytes), 1);
        Check.due("trouble", x.trouble(), 0);
        Check.due("bytes behind match", x.size(12), 0);
        Check.due("the first n bytes alone", Check.feed(x, WHOLE + "?"), n + 1);
        Check.due("match of the first n bytes", x.match(n), 1);
        Check.feed(x, WHOLE);
        Check.refused(x, "match of too few bytes", x.match(n - 1), 4);
        Check.due("bytes behind a FAULT", x.size(12), 0);
        Check.due("players behind a FAULT", x.size(0), 1);
        Check.due("three players", Check.match(x, WHOLE + ";" + PLAYER.replace("p of", "q of") + ";"
            + PLAYER.replace("p of", "r of")), 3);
    }

    private static void promise3Beginning() {
        SnowWalls x = Check.told(WHOLE + ";snow 7 wet 5 deep 5; guess g weighs 3 flat 1 high 1");
        x.start(99);
        x.hour(7);
        x.mark();
        x.see(0);
        x.tenth();
        Check.feed(x, "law");
        x.match(3);
        Check.due("SEED stays behind a FAULT", x.size(8), 99);
        Check.due("HOUR stays behind a FAULT", x.size(9), 7);
        Check.due("MARKS stay behind a FAULT", x.size(10), 1);
        Check.due("SEEN stays behind a FAULT", x.size(11), 1);
        Check.due("TENTHS stay behind a FAULT", x.size(7), 1);
        Check.match(x, "snow 4 wet 5 deep 5; snow 6 wet 5 deep 5;" + LAW + ";" + PLAYER);
        Check.due("SEED of a new MATCH", x.size(8), 0);
        Check.due("HOUR of a new MATCH: of the first snow", x.size(9), 4);
        Check.due("MARKS of a new MATCH", x.size(10), 0);
        Check.due("SEEN of a new MATCH", x.size(11), 0);
        Check.due("TENTHS of a new MATCH", x.size(7), 0);
        Check.due("guesses of a new MATCH", x.size(4), 0);
        Check.refused(x, "back(0) in a new MATCH", x.back(0), 1);
    }

    private static void promise3Anew() {
        SnowWalls x = Check.told(WHOLE + ";block b of left at 1,2 strong 1;site s of left at 1,2 takes 1;"
            + "print of left at 1,2;guess g weighs 3 flat 1 high 1;at 0 p makes;referee 1 sees 1");
        x.see(0);
        Check.due("the same NAMES anew", Check.match(x, WHOLE), 1);
        int[] due = {1, 0, 0, 0, 0, 0, 1};
        for (int what = 0; what < due.length; what++) {
            Check.due("size(" + what + ") of a new MATCH", x.size(what), due[what]);
        }
        Check.match(x, WHOLE + ";guess h weighs 3 flat 1 high 1");
        Check.due("nothing SEEN in a new MATCH", x.likely(0), 3);
        // a player at whom a referee would look away: there is none any more
        Check.match(x, LAW + ";snow 1 wet 5 deep 1;" + PLAYER + ";player q of right at 1,3 arm 1 dodge 1 balls 1;at 0 p flat q");
        x.tenth();
        Check.due("HITS", x.sum(3), 1);
        Check.due("no referee in a new MATCH", x.sum(4), 0);
    }

    private static void promise4() {
        SnowWalls x = new SnowWalls();
        Check.match(x, "snow 24");
        Check.due("fault", x.fault(), 4);
        x.match(1);
        Check.due("fault behind a match refused by 2", x.fault(), 4);
        x.over();
        Check.due("fault behind another call", x.fault(), 4);
        Check.match(x, WHOLE);
        Check.due("fault behind a match", x.fault(), 0);
    }

    private static void promise5() {
        SnowWalls x = new SnowWalls();
        Check.match(x, "snow 24");
        Check.due("where", x.where(), 5);
        Check.feed(x, WHOLE);
        x.size(0);
        x.fault();
        x.trouble();
        Check.ledThrows(x, 0);
        Check.due("where behind calls that tell no number", x.where(), 5);
        x.over();
        Check.due("where behind a call refused by 1", x.where(), -1);
        Check.match(x, "snow 24");
        x.dash(1, 1, 1);
        Check.due("where behind a call that isn't refused", x.where(), -1);
        x.match(0);
        Check.due("where of an empty text", x.where(), 0);
    }

    private static void tokens() {
        SnowWalls x = new SnowWalls();
        Check.due("blanks part TOKENS and mean nothing else", Check.match(x, "  law carry 1  line 1 tenths 1 thaws 1 ; "
            + "snow 1 wet 1 deep 1;player p of left at 1 ,  2 arm 1 dodge 1 balls 1   "), 1);
        Check.due("TOKENS need no blanks where letters and digits meet", Check.match(x, "law carry1line1tenths1thaws1;"
            + "snow1wet1deep1;player p of left at1,2arm1dodge1balls1"), 1);
        Check.due("WHOLES with noughts ahead", Check.match(x, WHOLE.replace("carry 1", "carry 009")), 1);
        Check.fault(WHOLE.replace("carry 1", "carry 0009"), 1, 10);
        Check.fault(WHOLE.replace("thaws 1", "thaws 1000"), 1, 34);
        Check.due("a NAME of eight letters", Check.match(x, WHOLE.replace("player p", "player abcdefgh")), 1);
        Check.fault(PLAYER.replace("player p", "player abcdefghi"), 1, 7);
        Check.fault(PLAYER.replace("player p", "player P"), 1, 7);
        Check.fault("\tlaw", 1, 0);
        Check.fault("law\n", 1, 3);
        Check.fault("law carry 1.", 1, 11);
        Check.fault("law carry -1", 1, 10);
        Check.fault("lawcarry 1", 1, 0);
        Check.fault("law car ry", 1, 4);
        Check.fault("law carry 1 \u00e9", 1, 12);
        Check.fault("law carry 1 \0", 1, 12);
    }

    private static void forms() {
        Check.fault("", 1, 0);
        Check.fault("   ", 1, 3);
        Check.fault(";", 1, 0);
        Check.fault(WHOLE + ";", 1, WHOLE.length() + 1);
        Check.fault(WHOLE + ";  ", 1, WHOLE.length() + 3);
        Check.fault(WHOLE + ";;" + SNOW, 1, WHOLE.length() + 1);
        Check.fault(WHOLE + ",", 1, WHOLE.length());
        Check.fault(WHOLE + " 1", 1, WHOLE.length() + 1);
        Check.fault(WHOLE + "; walls", 1, WHOLE.length() + 2);
        Check.fault("law carry 1 line 1 tenths 1; " + SNOW, 1, 27);
        Check.fault("law carry carry", 1, 10);
        Check.fault("law line 1", 1, 4);
        Check.fault("snow wet", 1, 5);
        Check.fault("snow 1 deep", 1, 7);
        Check.fault("referee 1, sees 2", 1, 9);
        Check.fault("block b at 1,2", 1, 8);
        Check.fault("block b of left at 1;2", 1, 20);
        Check.fault("block b of left at 1,2 takes 1", 1, 23);
        Check.fault("site s of left at 1,2 strong 1", 1, 22);
        Check.fault("print p of left at 1,2", 1, 6);
        Check.fault("player 1 of left", 1, 7);
        Check.fault("player p of left at 1,2 balls 1", 1, 24);
        Check.fault("at 1 1", 1, 5);
        Check.fault(PLAYER + "; at 1 p flat 1", 1, PLAYER.length() + 14);
        Check.fault(PLAYER + "; at 1 p flat", 1, PLAYER.length() + 13);
        Check.fault(PLAYER + "; at 1 p makes p", 1, PLAYER.length() + 15);
        Check.fault(PLAYER + "; at 1 p throws p", 1, PLAYER.length() + 9);
        Check.fault("guess g weighs 1 high 1", 1, 17);
    }

    private static void names() {
        String[] noNames = {"law", "snow", "referee", "block", "player", "site", "print", "at", "guess", "left", "right",
            "flat", "high", "rolls", "makes", "goes", "ducks"};
        for (String word : noNames) {
            Check.fault("player " + word, 1, 7);
            Check.fault("at 1 " + word, 1, 5);
            Check.fault(PLAYER + ";at 1 p rolls " + word, 1, PLAYER.length() + 14);
        }
        SnowWalls x = new SnowWalls();
        String[] names = {"of", "carry", "line", "tenths", "thaws", "wet", "deep", "sees", "strong", "arm", "dodge",
            "balls", "takes", "weighs", "laws", "a", "lefty", "pe"};
        for (String word : names) {
            Check.due("a player " + word, Check.match(x, WHOLE.replace("player p", "player " + word)
                + "; at 1 " + word + " rolls " + word), 1);
        }
        allNames();
        String[] others = {"block p of right at 1,2 strong 1", "site p of left at 1,2 takes 1",
            "player p of right at 1,2 arm 1 dodge 1 balls 1", "guess p weighs 1 flat 1 high 1"};
        for (String line : others) {
            Check.fault(PLAYER + ";" + line, 3, PLAYER.length() + 2 + line.indexOf(' '));
            Check.fault(line.replace(" p ", " q ") + ";" + line.replace(" p ", " q "), 3,
                line.length() + 2 + line.indexOf(' '));
        }
        Check.fault("at 1 p makes;" + PLAYER, 2, 5);
        Check.fault(PLAYER + ";at 1 q", 2, PLAYER.length() + 6);
        Check.fault(PLAYER + ";at 1 p high q", 2, PLAYER.length() + 13);
        Check.fault("block b of left at 1,2 strong 1;at 1 b", 2, 37);
        Check.fault("site b of left at 1,2 takes 1;at 1 b", 2, 35);
        Check.fault("guess b weighs 1 flat 1 high 1;at 1 b", 2, 36);
        Check.fault(PLAYER + ";block b of left at 1,2 strong 1;at 1 p rolls b", 2, PLAYER.length() + 46);
        Check.fault(LAW + ";law ?", 3, LAW.length() + 1);
        Check.fault("referee 1 sees 1;referee 1 sees 1", 3, 17);
    }

    /** As many NAMES as there is room for, of 854 bytes in all. */
    private static void allNames() {
        StringBuilder text = new StringBuilder("law carry1line1tenths1thaws1;snow1wet1deep1");
        for (char name = 'a'; name <= 'z'; name++) {
            if (name < 'i') {
                text.append(";player ").append(name).append(" of left at0,0arm0dodge0balls0");
            } else if (name < 'q') {
                text.append(";block ").append(name).append(" of left at0,0strong1");
            } else if (name < 'w') {
                text.append(";site ").append(name).append(" of left at0,0takes1");
            } else {
                text.append(";guess ").append(name).append(" weighs1flat0high0");
            }
        }
        SnowWalls x = new SnowWalls();
        Check.due("all NAMES", Check.match(x, text.toString()), 8);
        Check.due("all NAMES once more", Check.match(x, text.toString()), 8);
        Check.due("guesses", x.size(4), 4);
        Check.fault(text + ";at1z", 2, text.length() + 4);
    }

    /** A LINE, with # where a WHOLE from lowest to highest must stand. */
    private static void bound(String line, int lowest, int highest) {
        String rest = ";" + LAW + ";" + SNOW + ";" + PLAYER;
        if (line.startsWith("law")) {
            rest = ";" + SNOW + ";" + PLAYER;
        }
        SnowWalls x = new SnowWalls();
        for (int whole : new int[] {lowest, highest}) {
            int players = Check.match(x, line.replace("#", "" + whole) + rest);
            Check.due(line + " of " + whole, players, line.startsWith("player") ? 2 : 1);
        }
        for (int whole : new int[] {lowest - 1, highest + 1, 999}) {
            if (whole >= 0) {
                Check.fault(line.replace("#", "" + whole) + rest, 4, line.indexOf('#'));
            }
        }
    }

    private static void bounds() {
        bound("law carry # line 1 tenths 1 thaws 1", 1, 9);
        bound("law carry 1 line # tenths 1 thaws 1", 0, 10);
        bound("law carry 1 line 1 tenths # thaws 1", 1, 99);
        bound("law carry 1 line 1 tenths 1 thaws #", 0, 20);
        bound("snow # wet 1 deep 1", 0, 23);
        bound("snow 1 wet # deep 1", 0, 9);
        bound("snow 1 wet 1 deep #", 0, 9);
        bound("referee # sees 1", 0, 19);
        bound("referee 1 sees #", 0, 9);
        bound("block b of left at #,1 strong 1", 0, 4);
        bound("block b of left at 1,# strong 1", 0, 19);
        bound("block b of right at 1,1 strong #", 1, 9);
        bound("player b of right at #,1 arm 1 dodge 1 balls 1", 0, 4);
        bound("player b of right at 1,# arm 1 dodge 1 balls 1", 0, 19);
        bound("player b of right at 1,1 arm # dodge 1 balls 1", 0, 9);
        bound("player b of right at 1,1 arm 1 dodge # balls 1", 0, 9);
        bound("player b of right at 1,1 arm 1 dodge 1 balls #", 0, 9);
        bound("site b of left at #,1 takes 1", 0, 4);
        bound("site b of left at 1,# takes 1", 0, 19);
        bound("site b of left at 1,1 takes #", 1, 30);
        bound("print of left at #,1", 0, 4);
        bound("print of left at 1,#", 0, 19);
        bound("guess g weighs # flat 1 high 1", 1, 99);
        bound("guess g weighs 1 flat # high 0", 0, 10);
        bound("guess g weighs 1 flat 0 high #", 0, 10);
        bound("guess g weighs 1 flat 4 high #", 0, 6);
        bound("guess g weighs 1 flat 10 high #", 0, 0);
        Check.fault(PLAYER + ";at 99 p makes", 4, PLAYER.length() + 4);
        Check.due("at 98", Check.match(new SnowWalls(), WHOLE + ";at 98 p makes"), 1);
        // the first from the left
        Check.fault("player p of left at 5,20 arm 10", 4, 20);
        Check.fault("law carry 1 line 1 tenths 0 thaws 21 ?", 4, 26);
        Check.fault("snow 24 ?", 4, 5);
    }

    /** So many LINES have room, and one more hasn't, at its first WORD. */
    private static void room(String line, int most, String ahead) {
        StringBuilder text = new StringBuilder(ahead);
        for (int i = 0; i < most; i++) {
            text.append(";").append(line.replace("#", "" + (char) ('a' + i)));
        }
        SnowWalls x = new SnowWalls();
        Check.due(most + " times " + line, Check.match(x, text.toString()) > 0, true);
        Check.fault(text + ";" + line.substring(0, line.indexOf(' ')), 5, text.length() + 1);
        Check.fault(text + ";" + line.replace("#", "p"), 5, text.length() + 1);
    }

    private static void many() {
        room("snow 2 wet 1 deep 1", 4, WHOLE);
        room("block #w of left at 1,2 strong 1", 8, WHOLE);
        room("player #w of left at 1,2 arm 1 dodge 1 balls 1", 7, WHOLE);
        room("site #w of left at 1,2 takes 1", 6, WHOLE);
        room("print of left at 1,2", 6, WHOLE);
        room("at 1 p makes", 20, WHOLE);
        room("guess #w weighs 1 flat 1 high 1", 4, WHOLE);
        // snows of like hours take room too
        Check.fault(LAW + ";" + SNOW + ";" + SNOW + ";" + SNOW + ";" + SNOW + ";" + SNOW + ";" + SNOW, 5, 136);
    }

    private static void lacks() {
        Check.fault(SNOW + ";" + PLAYER, 6, SNOW.length() + 1 + PLAYER.length());
        Check.fault(LAW + ";" + PLAYER, 6, LAW.length() + 1 + PLAYER.length());
        Check.fault(LAW + ";" + SNOW, 6, LAW.length() + 1 + SNOW.length());
        Check.fault(LAW + ";" + SNOW + "  ", 6, LAW.length() + 1 + SNOW.length() + 2);
        Check.due("no referee is needed, and a LINE may stand anywhere", Check.match(new SnowWalls(),
            PLAYER + ";" + SNOW + ";" + LAW), 1);
    }
}
