/** Term I and promises 1 to 5, sentence by sentence, at their bounds. */
final class TextSentences {
    private static final String LAW = "law carry 1 line 1 tenths 1 thaws 1";
    private static final String SNOW = "snow 1 wet 1 deep 1";
    private static final String PLAYER = "player p of left at 1,2 arm 1 dodge 1 balls 1";
    /** No MATCH has less. */
    private static final String LEAST = LAW + ";" + SNOW + ";" + PLAYER;
    private static final String MANY_PLAYERS = LEAST + ";player q of right at 0,0 arm 0 dodge 0 balls 0;";

    /** The LINES by their TOKENS: # is a WHOLE, @ a new NAME, ! a told PLAYER, $ a SIDE. */
    private static final String[] SORTS = {"law carry # line # tenths # thaws #", "snow # wet # deep #", "referee # sees #",
        "block @ of $ at # , # strong #", "player @ of $ at # , # arm # dodge # balls #", "site @ of $ at # , # takes #",
        "print of $ at # , #", "at # ! flat !", "at # ! high !", "at # ! rolls !", "at # ! makes", "at # ! goes",
        "at # ! ducks", "guess @ weighs # flat # high #"};

    private TextSentences() {
    }

    static void all() {
        tape();
        blanks();
        words();
        wholes();
        singles();
        lines();
        sorts();
        law();
        snow();
        referee();
        spots();
        blocksPlayersSites();
        prints();
        acts();
        guesses();
        names();
        allNames();
        faults();
        notTold();
        toldAgain();
        outOfBounds();
        many();
        lacks();
        newObject();
        feed();
        match();
        matchBegins();
        fault();
        where();
    }

    private static void whole(String text, int players) {
        SnowWalls x = new SnowWalls();
        Check.due("match of " + text, Check.match(x, text), players);
        Check.due("trouble of " + text, x.trouble(), 0);
        Check.due("fault of " + text, x.fault(), 0);
        Check.due("where of " + text, x.where(), -1);
        Check.due("players of " + text, x.size(0), players);
    }

    private static String sign(int byteValue) {
        return "" + (char) byteValue;
    }

    // ---- Term I: TOKENS

    private static void tape() {
        Doc.says("I", "THE TEXT of a MATCH (THE TAPE has 900 bytes;");
        String least = " ".repeat(900 - LEAST.length()) + LEAST;
        SnowWalls x = new SnowWalls();
        Check.due("900 bytes are fed", Check.feed(x, least), 900);
        Check.due("900 bytes are there", x.size(12), 900);
        Check.due("feed beyond 900", x.feed(0, 0, 0, 0, 0), -1);
        Check.due("900 bytes are there still", x.size(12), 900);
        Check.due("match of 900", x.match(900), 1);
        Check.due("room for 900 anew", Check.feed(x, least.replace(PLAYER, PLAYER.replace("balls 1", "balls 0"))), 900);
        Check.due("900 bytes anew", x.size(12), 900);
        Check.due("match of 900 anew", x.match(900), 1);
        Check.due("the last byte counts", x.player(0, 1), 0);
        Check.fault(" ".repeat(899) + "?", 1, 899);
        Check.fault(" ".repeat(900), 1, 900);
        Check.fault("?".repeat(900), 1, 0);
        Check.fault("snow 1 wet 1 deep 1" + " ".repeat(881), 6, 900);
    }

    private static void blanks() {
        Doc.says("I", "blanks, 32, part TOKENS and mean nothing else;");
        whole("   " + LEAST.replace(" ", "    ").replace(";", " ;  ").replace(",", "  ,   ") + "     ", 1);
        whole(LEAST.replace(" at 1", " at1").replace("arm 1", "arm1").replace("1 arm", "1arm"), 1);
        Check.fault(LEAST.replace("law", "l aw"), 1, 0);
        Check.fault(LEAST.replace("carry", "car ry"), 1, 4);
        Check.fault(LEAST.replace("thaws 1", "thaws 1 1"), 1, 36);
        Check.fault(LEAST.replace("player p", "player p p"), 1, LEAST.indexOf("player p") + 9);
        for (int sign : new int[] {0, 9, 10, 13, 31, 33, 127, 160, 255}) {
            Check.fault(LEAST.replaceFirst(" ", sign(sign)), 1, 3);
            Check.fault(sign(sign) + LEAST, 1, 0);
            Check.fault(LEAST + sign(sign), 1, LEAST.length());
        }
    }

    private static void words() {
        Doc.says("I", "TOKENS: WORDS of 1 to 8 small letters that stand together,");
        for (String name : new String[] {"a", "z", "az", "abcdefg", "abcdefgh", "zzzzzzzz", "stuvwxyz"}) {
            whole(LEAST.replace("player p", "player " + name), 1);
        }
        for (String name : new String[] {"abcdefghi", "zzzzzzzzz", "a".repeat(800), "A", "Z", "`", "{", "@", "[", "_", "-", "\u00e4",
            sign('a' + 128), sign('z' + 128)}) {
            Check.fault(PLAYER.replace("player p", "player " + name), 1, 7);
        }
        for (String sign : new String[] {"A", "Z", "`", "{", sign('b' + 128)}) {
            Check.fault(PLAYER.replace("player p", "player p" + sign), 1, 8);
            Check.fault(PLAYER.replace("player p", "player abcdefgh" + sign), 1, 15);
        }
        // of eight letters each counts
        String two = LEAST.replace("player p", "player abcdefgh") + ";"
            + PLAYER.replace("player p", "player abcdefgi") + ";" + PLAYER.replace("player p", "player abcdefg") + ";"
            + PLAYER.replace("player p", "player bbcdefgh");
        whole(two, 4);
        whole(two + ";at 1 abcdefgi rolls abcdefgh", 4);
        Check.fault(two + ";at 1 abcdefgj", 2, two.length() + 6);
        // so does how many there are of one
        StringBuilder alike = new StringBuilder(LAW + ";" + SNOW);
        for (String name : new String[] {"a", "aa", "aaaaaaa", "aaaaaaaa", "b", "bb", "bbbbbbbb", "ab"}) {
            alike.append(";").append(PLAYER.replace("player p", "player " + name));
        }
        whole(alike.toString(), 8);
        Check.fault(alike + ";at 1 aaa", 2, alike.length() + 6);
        Check.fault(alike + ";at 1 bbb", 2, alike.length() + 6);
        Check.fault(alike + ";at 1 ba", 2, alike.length() + 6);
        Check.fault("lawlawlawlaw", 1, 0);
        Check.fault("players p", 1, 0);
        Check.fault("playe p", 1, 0);
    }

    private static void wholes() {
        Doc.says("I", "WHOLES of 1 to 3 digits that do,");
        for (String nine : new String[] {"9", "09", "009"}) {
            SnowWalls x = Check.told(LEAST.replace("balls 1", "balls " + nine));
            Check.due("balls of " + nine, x.player(0, 1), 9);
        }
        for (String nought : new String[] {"0", "00", "000"}) {
            SnowWalls x = Check.told(LEAST.replace("balls 1", "balls " + nought));
            Check.due("balls of " + nought, x.player(0, 1), 0);
        }
        int at = LEAST.length() - 1;
        for (String none : new String[] {"0009", "0000", "1234", "99999999999999999999", "/", ":", "-1", "+1", ".5", "\u00b2",
            sign('1' + 128)}) {
            Check.fault(LEAST.replace("balls 1", "balls " + none), 1, at);
        }
        Check.fault(LEAST.replace("balls 1", "balls 999"), 4, at);
        Check.fault(LEAST.replace("balls 1", "balls 1/"), 1, at + 1);
        Check.fault(LEAST.replace("balls 1", "balls 1:"), 1, at + 1);
        SnowWalls x = Check.told(LAW.replace("thaws 1", "thaws 020") + ";snow 023 wet 7 deep 1;" + PLAYER.replace("1,2", "004,019"));
        Check.due("hour of three digits", x.size(9), 23);
        Check.due("x of three digits", x.player(0, 0), 19);
    }

    private static void singles() {
        Doc.says("I", "single ones of ; ,): LINE {; LINE}. LINE, one of:");
        whole(LEAST.replace(";", " ; "), 1);
        Check.fault(LAW + ";;" + SNOW, 1, LAW.length() + 1);
        Check.fault(LAW + "; ;" + SNOW, 1, LAW.length() + 2);
        Check.fault(LEAST.replace("1,2", "1,,2"), 1, LEAST.indexOf("1,2") + 2);
        Check.fault(LEAST.replace("1,2", "1;2"), 1, LEAST.indexOf("1,2") + 1);
        Check.fault(LEAST.replace("1,2", "1:2"), 1, LEAST.indexOf("1,2") + 1);
        Check.fault(LEAST.replace("1,2", "1.2"), 1, LEAST.indexOf("1,2") + 1);
    }

    private static void lines() {
        Check.fault("", 1, 0);
        Check.fault(" ", 1, 1);
        Check.fault(";", 1, 0);
        Check.fault(";" + LEAST, 1, 0);
        Check.fault(LEAST + ";", 1, LEAST.length() + 1);
        Check.fault(LEAST + " ; ", 1, LEAST.length() + 3);
        Check.fault(LAW + "," + SNOW, 1, LAW.length());
        Check.fault(LAW + " " + SNOW, 1, LAW.length() + 1);
        Check.fault(LAW + ":" + SNOW, 1, LAW.length());
        Check.fault(LEAST + ";snows 1 wet 1 deep 1", 1, LEAST.length() + 1);
        Check.fault(LEAST + ";1", 1, LEAST.length() + 1);
        Check.fault(LEAST + ";p", 1, LEAST.length() + 1);
        // one LINE alone has the form of a MATCH
        Check.fault(SNOW, 6, SNOW.length());
        whole(PLAYER + ";" + SNOW + ";" + LAW, 1);
        // of LINES as many as 900 bytes and their room take
        StringBuilder most = new StringBuilder("law carry1line1tenths1thaws1;player p of left at0,0arm0dodge0balls0;referee1sees1");
        most.append(";snow1wet1deep1".repeat(5)).append(";print of left at0,0".repeat(6)).append(";at0p ducks".repeat(20));
        for (int i = 0; i < 6; i++) {
            most.append(";site s").append((char) ('a' + i)).append(" of left at0,0takes1");
        }
        most.append(";guess g weighs1flat0high0;guess h weighs1flat0high0");
        whole(most.toString(), 1);
    }

    /** Each LINE, ended behind each of its TOKENS, with another one in the place of each, and with one more. */
    private static void sorts() {
        for (String sort : SORTS) {
            String ahead = MANY_PLAYERS;
            if (sort.startsWith("law")) {
                ahead = MANY_PLAYERS.substring(LAW.length() + 1);
            }
            String[] tokens = sort.replace("$", "right").replace("@", "nn").replace("!", "q").replace("#", "2").split(" ");
            String[] kinds = sort.split(" ");
            String whole = ahead + String.join(" ", tokens);
            whole(whole, sort.startsWith("player") ? 3 : 2);
            for (String more : new String[] {"2", "q", ",", "law", "of", "?"}) {
                Check.fault(whole + " " + more, 1, whole.length() + 1);
            }
            int from = ahead.length();
            for (int i = 0; i < tokens.length; i++) {
                String cut = whole.substring(0, from);
                Check.fault(cut, 1, cut.length());
                Check.fault(cut + "  ", 1, cut.length() + 2);
                Check.fault(cut + ";", 1, cut.length());
                for (String other : others(kinds[i])) {
                    Check.fault(cut + other + whole.substring(from + tokens[i].length()), 1, from);
                }
                from += tokens[i].length() + 1;
            }
        }
    }

    /** TOKENS, and what is none, that may not stand where one of this kind must. */
    private static String[] others(String kind) {
        switch (kind) {
            case "#":
                return new String[] {"?", "x", "two", ",", "0002"};
            case "@":
            case "!":
                return new String[] {"?", "2", ",", "left", "guess", "ducks", "ninebytes"};
            case "$":
                return new String[] {"?", "2", ",", "lefts", "righ", "middle", "q", "l", "r"};
            case ",":
                return new String[] {"?", "2", "x", "."};
            case "flat":
            case "high":
            case "rolls":
            case "makes":
            case "goes":
            case "ducks":
                return new String[] {"?", "2", ",", "q", "duck", "make", "flats", "left"};
            default:
                return new String[] {"?", "2", ",", "q", kind + "x", kind.substring(1)};
        }
    }

    // ---- Term I: what is told

    /** A LINE with a WHOLE at # from lowest to highest, and no other one. */
    private static void bound(String line, int lowest, int highest) {
        String rest = line.startsWith("law") ? ";" + SNOW + ";" + PLAYER : ";" + LEAST;
        int players = line.startsWith("player") ? 2 : 1;
        whole(line.replace("#", "" + lowest) + rest, players);
        whole(line.replace("#", "" + highest) + rest, players);
        if (lowest > 0) {
            Check.fault(line.replace("#", "" + (lowest - 1)) + rest, 4, line.indexOf('#'));
        }
        Check.fault(line.replace("#", "" + (highest + 1)) + rest, 4, line.indexOf('#'));
        Check.fault(line.replace("#", "999") + rest, 4, line.indexOf('#'));
    }

    private static void law() {
        Doc.says("I", "law carry WHOLE line WHOLE tenths WHOLE thaws WHOLE (1 .. 9, 0 .. 10, 1 .. 99, 0 .. 20),");
        bound("law carry # line 1 tenths 1 thaws 1", 1, 9);
        bound("law carry 1 line # tenths 1 thaws 1", 0, 10);
        bound("law carry 1 line 1 tenths # thaws 1", 1, 99);
        bound("law carry 1 line 1 tenths 1 thaws #", 0, 20);
        for (int[] law : new int[][] {{1, 0, 1, 0}, {9, 10, 99, 20}, {2, 3, 4, 5}}) {
            SnowWalls x = Check.told(Lines.law(law[0], law[1], law[2], law[3]) + Lines.snow(1, 9, 1)
                + Lines.left("p", 0, law[1], 0, 0, 0) + Lines.left("q", 0, 19, 0, 0, 0) + Lines.right("r", 0, 19, 0, 0, 0)
                + Lines.block("w", "left", 0, 0, 9) + Lines.at(0, "p goes"));
            Check.due("carry " + law[0], x.supply(0, law[0]), -2);
            Check.refused(x, "beyond carry " + law[0], x.supply(0, law[0] + 1), 2);
            Check.due("falls by thaws " + law[3], x.falls(0), law[3] == 0 ? -2 : 9 * law[3]);
            x.tenth();
            Check.due("line " + law[1], x.player(0, 0), law[1]);
            Check.due("tenths " + law[2], 1 + x.finish(), law[2]);
        }
    }

    private static void snow() {
        Doc.says("I", "or snow WHOLE wet WHOLE deep WHOLE (an hour 0 .. 23; 0 .. 9 each; up to 5; of like hours the latest counts),");
        bound("snow # wet 1 deep 1", 0, 23);
        bound("snow 1 wet # deep 1", 0, 9);
        bound("snow 1 wet 1 deep #", 0, 9);
        String rest = ";" + LAW + ";" + PLAYER + ";at 0 p makes";
        SnowWalls x = Check.told("snow 0 wet 9 deep 9;snow 23 wet 9 deep 0" + rest.replace("balls 1", "balls 0"));
        Check.due("hour 0", x.hold(0), 20);
        Check.due("hour 23", x.hold(23), 20);
        x.tenth();
        Check.due("deep 9", x.player(0, 1), 1);
        x.hour(23);
        x.start(0);
        x.tenth();
        Check.due("deep 0", x.player(0, 1), 0);
        room("snow 5 wet # deep 0", 5, LAW + ";" + PLAYER);
        room("snow # wet 1 deep 0", 5, LAW + ";" + PLAYER);
        x = Check.told("snow 4 wet 4 deep 0;snow 4 wet 8 deep 0;snow 5 wet 2 deep 0;snow 4 wet 9 deep 0;snow 5 wet 3 deep 9" + rest);
        Check.due("of like hours the latest counts", x.hold(4), 20);
        Check.due("of like hours the latest counts", x.hold(5), 40);
        Check.due("the best of the latest", x.bestHour(), 5);
        Check.due("snows", x.size(6), 5);
        Check.due("HOUR", x.size(9), 4);
        Check.due("hour of like ones", x.hour(5), true);
        x.start(0);
        x.tenth();
        Check.due("the deep of the latest", x.player(0, 1), 1);
        x = Check.told("snow 4 wet 4 deep 9;snow 4 wet 4 deep 0" + rest.replace("balls 1", "balls 0"));
        x.tenth();
        Check.due("the deep of the latest", x.player(0, 1), 0);
        x = Check.told("snow 4 wet 6 deep 9;snow 4 wet 7 deep 0" + rest + ";block w of left at 0,0 strong 2");
        x.tenth();
        Check.due("the wet of the latest", x.block(0), 1);
    }

    private static void referee() {
        Doc.says("I", "or referee WHOLE sees WHOLE (0 .. 19, 0 .. 9)");
        bound("referee # sees 1", 0, 19);
        bound("referee 1 sees #", 0, 9);
    }

    private static void spots() {
        Doc.says("I", "SIDE: left, or right. at: a lane 0 .. 4, then an x 0 .. 19.");
        String[] heads = {"block b of left at ", "player b of left at ", "site b of left at ", "print of left at "};
        String[] tails = {" strong 1", " arm 1 dodge 1 balls 1", " takes 1", ""};
        for (int i = 0; i < heads.length; i++) {
            bound(heads[i] + "#,1" + tails[i], 0, 4);
            bound(heads[i] + "1,#" + tails[i], 0, 19);
            bound(heads[i].replace("left", "right") + "#,19" + tails[i], 0, 4);
            bound(heads[i].replace("left", "right") + "4,#" + tails[i], 0, 19);
            Check.fault(heads[i] + "5,20" + tails[i], 4, heads[i].length());
        }
        SnowWalls x = Check.told(LAW + ";" + SNOW + ";" + Lines.left("a", 0, 19, 0, 0, 0) + Lines.right("b", 4, 0, 0, 0, 0)
            + Lines.block("v", "left", 0, 1, 1) + Lines.block("w", "right", 4, 18, 1));
        Check.due("x 19", x.player(0, 0), 19);
        Check.due("x 0", x.player(1, 0), 0);
        Check.due("left", x.left(0), 1);
        Check.due("right", x.left(1), 1);
        Check.due("lanes 0 and 4, x 19 and 0", x.chance(0, 1, false), 95 - 4 * 23);
        Check.due("a block in lane 4, at 18", x.hidden(0, 1), 1);
        Check.due("a block in lane 0, at 1", x.hidden(1, 0), 0);
    }

    private static void blocksPlayersSites() {
        Doc.says("I", "block NAME of SIDE at WHOLE, WHOLE strong WHOLE (1 .. 9; up to 8),");
        bound("block b of left at 0,0 strong #", 1, 9);
        room("block @ of left at 0,0 strong 1", 8, LEAST);
        SnowWalls x = Check.told(LEAST + ";" + Lines.block("v", "left", 0, 1, 1) + Lines.block("w", "right", 4, 18, 9));
        Check.due("strong 1", x.block(0), 1);
        Check.due("strong 9", x.block(1), 9);
        Doc.says("I", "or player NAME of SIDE at WHOLE, WHOLE arm WHOLE dodge WHOLE balls WHOLE (0 .. 9 each; up to 8),");
        bound("player b of left at 0,0 arm # dodge 0 balls 0", 0, 9);
        bound("player b of left at 0,0 arm 0 dodge # balls 0", 0, 9);
        bound("player b of left at 0,0 arm 0 dodge 0 balls #", 0, 9);
        room("player @ of left at 0,0 arm 0 dodge 0 balls 0", 8, LAW + ";" + SNOW);
        x = Check.told(LAW + ";" + SNOW + ";" + Lines.left("a", 0, 10, 9, 0, 0) + Lines.right("b", 0, 19, 0, 9, 9));
        Check.due("arm 9, dodge 9", x.chance(0, 1, false), 95 - 36 + 45 - 54);
        Check.due("arm 0, dodge 0", x.chance(1, 0, false), 95 - 36);
        Check.due("balls 0", x.player(0, 1), 0);
        Check.due("balls 9, beyond carry", x.player(1, 1), 9);
        Doc.says("I", "or site NAME of SIDE at WHOLE, WHOLE takes WHOLE (1 .. 30; up to 6),");
        bound("site b of left at 0,0 takes #", 1, 30);
        room("site @ of left at 0,0 takes 1", 6, LEAST);
        x = Check.told(LAW + ";" + SNOW + ";" + Lines.left("a", 0, 0, 0, 0, 0) + Lines.right("b", 1, 19, 0, 0, 0)
            + Lines.site("s", "left", 0, 9, 30) + Lines.site("t", "right", 1, 9, 1));
        Check.due("takes 30, in 29", x.build(0, 29), 0);
        Check.due("takes 30, in 30", x.build(0, 30), 1);
        Check.due("takes 1, in 0", x.build(1, 0), 0);
        Check.due("takes 1, in 1", x.build(1, 1), 2);
    }

    private static void prints() {
        Doc.says("I", "or print of SIDE at WHOLE, WHOLE (up to 6).");
        room("print of left at 0,0", 6, LEAST);
        SnowWalls x = Check.told(LAW + ";" + SNOW + ";" + Lines.left("a", 0, 19, 0, 0, 0) + Lines.right("b", 4, 0, 0, 0, 0)
            + Lines.print("left", 0, 0) + Lines.print("right", 4, 19));
        Check.due("off by 18", x.ways(18), 0);
        Check.due("off by 19", x.ways(19), 1);
    }

    private static void acts() {
        Doc.says("I", "at WHOLE PLAYER ACT (a tenth 0 .. 98; up to 20). ACT: flat PLAYER, high PLAYER, rolls PLAYER, makes, goes, or "
            + "ducks");
        String[] acts = {"p flat p", "p high p", "p rolls p", "p makes", "p goes", "p ducks"};
        for (String act : acts) {
            whole(LEAST + ";at 0 " + act, 1);
            whole(LEAST + ";at 98 " + act, 1);
            Check.fault(LEAST + ";at 99 " + act, 4, LEAST.length() + 4);
            Check.fault(LEAST + ";at 999 " + act, 4, LEAST.length() + 4);
            room("at 1 " + act, 20, LEAST);
        }
        String text = Lines.law(2, 9, 99, 0) + Lines.snow(1, 5, 1) + Lines.left("a", 0, 0, 0, 0, 0)
            + Lines.right("b", 0, 19, 0, 0, 0) + Lines.at(98, "a makes") + Lines.at(0, "b makes");
        SnowWalls x = Check.told(text);
        x.tenth();
        Check.due("at 0, behind the first", x.player(1, 1), 1);
        for (int i = 1; i < 98; i++) {
            x.tenth();
        }
        Check.due("at 98, not yet", x.player(0, 1), 0);
        x.tenth();
        Check.due("at 98, behind the last of 99", x.player(0, 1), 1);
        x = Check.told(text.replace("tenths 99", "tenths 98"));
        x.finish();
        Check.due("at 98 of 98 tenths", x.player(0, 1), 0);
        // as many as may be told, all done
        StringBuilder most = new StringBuilder(LEAST.replace("balls 1", "balls 0").replace("wet 1", "wet 5"));
        most.append(";at 0 p ducks".repeat(19)).append(";at 0 p makes");
        x = Check.told(most.toString());
        Check.due("20 told", x.size(5), 20);
        x.tenth();
        Check.due("the twentieth is done", x.player(0, 1), 1);
    }

    private static void guesses() {
        Doc.says("I", "guess NAME weighs WHOLE flat WHOLE high WHOLE (1 .. 99; 0 .. 10; 0 up to 10 less that; up to 4)");
        bound("guess g weighs # flat 1 high 1", 1, 99);
        bound("guess g weighs 1 flat # high 0", 0, 10);
        for (int flat = 0; flat <= 10; flat++) {
            bound("guess g weighs 1 flat " + flat + " high #", 0, 10 - flat);
        }
        room("guess @ weighs 1 flat 0 high 10", 4, LEAST);
        SnowWalls x = Check.told(LEAST + ";" + Lines.guess("g", 1, 0, 10) + Lines.guess("h", 99, 10, 0) + Lines.guess("i", 2, 3, 4)
            + Lines.guess("j", 3, 0, 0));
        Check.due("weighs 1", x.likely(0), 1);
        Check.due("weighs 99", x.likely(1), 99);
        Check.due("the fourth", x.likely(3), 3);
    }

    /** So many LINES of a sort have room; # tells them apart by a digit, @ by a letter. One more is MANY, at its first WORD. */
    private static void room(String line, int most, String ahead) {
        StringBuilder text = new StringBuilder(ahead);
        for (int i = 0; i < most; i++) {
            text.append(";").append(line.replace("#", "" + i).replace("@", sign('a' + i)));
        }
        SnowWalls x = new SnowWalls();
        Check.due(most + " times " + line, Check.match(x, text.toString()) >= 1, true);
        String first = line.substring(0, line.indexOf(' '));
        for (String more : new String[] {first, first + " ?", first + " , 99 nobody", line.replace("#", "9").replace("@", "z")}) {
            Check.fault(text + "; " + more, 5, text.length() + 2);
        }
        // a LINE of another sort has room all the same
        String other = first.equals("referee") ? "" : ";referee 1 sees 1";
        Check.due(most + " times " + line + " and another", Check.match(x, text + other) >= 1, true);
    }

    private static void names() {
        Doc.says("I", "NAMES are WORDS but law, snow, referee, block, player, site, print, at, guess, left, right, flat, high, rolls, "
            + "makes, "
            + "goes, ducks;");
        String[] taken = {"law", "snow", "referee", "block", "player", "site", "print", "at", "guess", "left", "right", "flat",
            "high", "rolls", "makes", "goes", "ducks"};
        String[] heads = {"player ", "block ", "site ", "guess "};
        for (String word : taken) {
            for (String head : heads) {
                Check.fault(LEAST + ";" + head + word, 1, LEAST.length() + 1 + head.length());
            }
            Check.fault(LEAST + ";at 1 " + word + " makes", 1, LEAST.length() + 6);
            for (String act : new String[] {"flat ", "high ", "rolls "}) {
                Check.fault(LEAST + ";at 1 p " + act + word, 1, LEAST.length() + 8 + act.length());
            }
        }
        String[] free = {"of", "carry", "line", "tenths", "thaws", "wet", "deep", "sees", "strong", "arm", "dodge", "balls",
            "takes", "weighs", "laws", "la", "a", "lefty", "eft", "duck", "guesses", "att", "t"};
        for (String word : free) {
            whole(LEAST.replace("player p", "player " + word) + ";at 1 " + word + " rolls " + word, 1);
            whole(LEAST + ";block " + word + " of left at 0,0 strong 1", 1);
            whole(LEAST + ";site " + word + " of left at 0,0 takes 1", 1);
            whole(LEAST + ";guess " + word + " weighs 1 flat 1 high 1", 1);
        }
        Doc.says("I", "each told once, ahead of its use.");
        Check.fault("at 1 p makes;" + LEAST, 2, 5);
        Check.fault(MANY_PLAYERS + "at 1 p flat r;player r of left at 0,0 arm 0 dodge 0 balls 0", 2, MANY_PLAYERS.length() + 12);
        whole(MANY_PLAYERS + "player r of left at 0,0 arm 0 dodge 0 balls 0;at 1 p flat r", 3);
    }

    /** As many NAMES as there is room for: each is known, and none may be told again. */
    private static void allNames() {
        StringBuilder text = new StringBuilder("law carry1line1tenths1thaws1;snow1wet1deep1");
        for (char name = 'z'; name >= 'a'; name--) {
            if (name > 'v') {
                text.append(";guess ").append(name).append(" weighs1flat0high0");
            } else if (name > 'p') {
                text.append(";site ").append(name).append(" of left at0,0takes1");
            } else if (name > 'h') {
                text.append(";block ").append(name).append(" of left at0,0strong1");
            } else {
                text.append(";player ").append(name).append(" of left at0,0arm0dodge0balls0");
            }
        }
        whole(text + ";at0a rolls h", 8);
        Check.fault(text + ";at0a flat i", 2, text.length() + 11);
        Check.fault(text + ";at0z", 2, text.length() + 4);
        String seven = text.substring(0, text.lastIndexOf(";"));
        for (char name = 'b'; name <= 'z'; name++) {
            Check.fault(seven + ";player " + name, 3, seven.length() + 8);
        }
        Check.fault(seven + ";at0a", 2, seven.length() + 4);
    }

    // ---- Term I: FAULTS

    private static void faults() {
        Doc.says("I", "FAULTS, the first that is met from the left, of one place the least number: 1 FORM: the first byte that begins no "
            + "TOKEN, "
            + "or TOKEN with which no MATCH goes on (the end: its place).");
        // a LINE with each FAULT, behind players p and q and what leaves room for no print; its place in it
        String ahead = LEAST + ";player q of right at 0,0 arm 0 dodge 0 balls 0" + ";print of left at 0,0".repeat(6) + ";";
        String[] lines = {"snow ?", "at 1 r makes", "block p of left at 0,0 strong 1", "snow 24 wet 1 deep 1", "print of left at 1,1",
            "law carry 1"};
        int[] fault = {1, 2, 3, 4, 5, 3};
        int[] place = {5, 5, 6, 5, 0, 0};
        for (int i = 0; i < lines.length; i++) {
            Check.fault(ahead + lines[i], fault[i], ahead.length() + place[i]);
            for (String line : lines) {
                Check.fault(ahead + lines[i] + ";" + line, fault[i], ahead.length() + place[i]);
            }
        }
        // within a LINE
        Check.fault("snow 24 wet 10 deep ?", 4, 5);
        Check.fault("snow 23 wet 10 deep ?", 4, 12);
        Check.fault("snow 23 wet 9 deep ?", 1, 19);
        Check.fault(ahead + "at 99 r jumps", 4, ahead.length() + 3);
        Check.fault(ahead + "at 98 r jumps", 2, ahead.length() + 6);
        Check.fault(ahead + "at 98 q jumps", 1, ahead.length() + 8);
        Check.fault(ahead + "at 98 q flat r ?", 2, ahead.length() + 13);
        // of one place the least number
        Check.fault("snow 1 wet 1 deep 1;", 1, 20);
        Check.fault("snow 1 wet 1 deep", 1, 17);
        Check.fault(LAW + " law", 1, LAW.length() + 1);
        Check.fault("referee 1 sees 1 referee", 1, 17);
        Check.fault(ahead.substring(0, ahead.length() - 1) + " print", 1, ahead.length());
        Check.fault("snow 0024", 1, 5);
        Check.fault("at 1 abcdefghi", 1, 5);
        Check.fault(PLAYER + ";player law", 1, PLAYER.length() + 8);
        // the end is where the first n bytes end
        SnowWalls x = new SnowWalls();
        Check.feed(x, "snow 1 wet 1 deep 1;    snow");
        x.match(22);
        Check.due("fault of an end ahead of more bytes", x.fault(), 1);
        Check.due("where of an end ahead of more bytes", x.where(), 22);
    }

    private static void notTold() {
        Doc.says("I", "2 a NAME that isn't told, or is of another sort than must stand there; at it.");
        String ahead = LEAST + ";block b of left at 0,0 strong 1;site s of left at 0,0 takes 1;guess g weighs 1 flat 1 high 1;";
        for (String name : new String[] {"b", "s", "g", "q", "pp", "of", "carry"}) {
            Check.fault(ahead + "at 1 " + name + " makes", 2, ahead.length() + 5);
            for (String act : new String[] {"flat ", "high ", "rolls "}) {
                Check.fault(ahead + "at 1 p " + act + name, 2, ahead.length() + 7 + act.length());
            }
        }
        whole(ahead + "at 1 p flat p", 1);
    }

    private static void toldAgain() {
        Doc.says("I", "3 a NAME told again; at it; a second law, referee; at that WORD.");
        String[] lines = {"player n of left at 0,0 arm 0 dodge 0 balls 0", "block n of left at 0,0 strong 1",
            "site n of left at 0,0 takes 1", "guess n weighs 1 flat 0 high 0"};
        for (String first : lines) {
            for (String second : lines) {
                Check.fault(first + ";" + second, 3, first.length() + 1 + second.indexOf(" n ") + 1);
                whole(LEAST + ";" + first + ";" + second.replace(" n ", " m "),
                    1 + (first.startsWith("player") ? 1 : 0) + (second.startsWith("player") ? 1 : 0));
            }
        }
        Check.fault(LAW + "; law", 3, LAW.length() + 2);
        Check.fault(LAW + ";" + LAW, 3, LAW.length() + 1);
        Check.fault("referee 1 sees 1;referee", 3, 17);
        Check.fault("referee 1 sees 1;" + LEAST + ";referee 1 sees 1", 3, 18 + LEAST.length());
        // a NAME of a text that had a FAULT, or of an earlier MATCH, is free
        SnowWalls x = Check.told(LEAST);
        Check.match(x, PLAYER);
        Check.due("the same NAME anew", Check.match(x, LEAST), 1);
    }

    private static void outOfBounds() {
        Doc.says("I", "4 a WHOLE out of bounds; at it.");
        // each WHOLE of each LINE, all others being in bounds
        for (String sort : SORTS) {
            String line = sort.replace("$", "left").replace("@", "nn").replace("!", "p").replace(" , ", ",");
            String ahead = sort.startsWith("law") ? SNOW + ";" + PLAYER + ";" : LEAST + ";";
            for (int at = line.indexOf('#'); at >= 0; at = line.indexOf('#', at + 1)) {
                String text = line.substring(0, at).replace("#", "1") + "100" + line.substring(at + 1).replace("#", "1");
                Check.fault(ahead + text, 4, ahead.length() + at);
            }
        }
    }

    private static void many() {
        Doc.says("I", "5 MANY: a LINE more of its sort than there is room for, at its first WORD.");
        String eight = "";
        for (int i = 0; i < 8; i++) {
            eight += ";" + PLAYER.replace("player p", "player p" + sign('a' + i));
        }
        String ahead = LAW + ";" + SNOW + eight;
        whole(ahead, 8);
        // at its first WORD, not at the NAME told again
        Check.fault(ahead + ";player pa of left at 9,9", 5, ahead.length() + 1);
        Check.fault(ahead + ";   player", 5, ahead.length() + 4);
    }

    private static void lacks() {
        Doc.says("I", "6 LACKS, at the end: no law, no snow, no player.");
        for (String text : new String[] {SNOW + ";" + PLAYER, LAW + ";" + PLAYER, LAW + ";" + SNOW, LAW, SNOW, PLAYER,
            "referee 1 sees 1", "print of left at 0,0", "guess g weighs 1 flat 1 high 1"}) {
            Check.fault(text, 6, text.length());
            Check.fault(text + "   ", 6, text.length() + 3);
        }
        whole(LEAST, 1);
    }

    // ---- promises 1 to 5

    private static void newObject() {
        Doc.says("1", "No MATCH.");
        SnowWalls x = new SnowWalls();
        for (int what = 0; what <= 12; what++) {
            Check.due("size(" + what + ") of a new object", x.size(what), 0);
        }
        Check.due("trouble of a new object", x.trouble(), 0);
        Check.due("fault of a new object", x.fault(), 0);
        Check.due("where of a new object", x.where(), -1);
        // two objects know nothing of each other
        SnowWalls other = Check.told(LEAST);
        Check.due("players of another object", x.size(0), 0);
        Check.due("players", other.size(0), 1);
    }

    private static void feed() {
        Doc.says("2", "Twenty bytes come behind THE TAPE, of each number the highest first: how many it has;");
        for (int at = 0; at < 20; at++) {
            SnowWalls x = new SnowWalls();
            for (int sign : new int[] {0, 1, 127, 128, 255, 'a', '?'}) {
                int[] five = {0x20202020, 0x20202020, 0x20202020, 0x20202020, 0x20202020};
                int shift = 24 - 8 * (at % 4);
                five[at / 4] = five[at / 4] & ~(255 << shift) | sign << shift;
                Check.due("feed", x.feed(five[0], five[1], five[2], five[3], five[4]), 20);
                x.match(20);
                Check.due("where byte " + sign + " stands", x.where(), at);
            }
        }
        Doc.says("2", "NONE, and none comes, if there would be more than 900.");
        SnowWalls x = new SnowWalls();
        Check.feed(x, LEAST + " ".repeat(880 - LEAST.length()));
        Check.due("bytes", x.size(12), 880);
        Check.due("feed up to 900", x.feed(0x20202020, 0x20202020, 0x20202020, 0x20202020, 0x20202020), 900);
        Check.due("feed beyond 900", x.feed(0, 0, 0, 0, 0), -1);
        Check.due("feed beyond 900 once more", x.feed(-1, -1, -1, -1, -1), -1);
        Check.due("trouble, of which feed tells no number", x.trouble(), 0);
        x.match(-1);
        Check.due("feed beyond 900 behind a refusal", x.feed(-1, -1, -1, -1, -1), -1);
        Check.due("trouble, which feed leaves", x.trouble(), 2);
        Check.due("bytes", x.size(12), 900);
        Check.refused(x, "match of more than 900", x.match(901), 2);
        Check.due("none has come", x.match(900), 1);
        Check.due("feed of an empty TAPE", x.feed(0, 0, 0, 0, 0), 20);
    }

    private static void match() {
        Doc.says("3", "The first n bytes of THE TAPE (it is empty then) are the MATCH from now on");
        SnowWalls x = new SnowWalls();
        Check.feed(x, LEAST + "9");
        Check.due("the byte behind n isn't looked at", x.match(LEAST.length()), 1);
        Check.due("balls", x.player(0, 1), 1);
        Check.due("THE TAPE is empty", x.size(12), 0);
        Check.refused(x, "match of a byte of an empty TAPE", x.match(1), 2);
        Check.refused(x, "match of no byte", x.match(0), 4);
        Check.feed(x, LEAST + "9");
        Check.refused(x, "match of a byte more", x.match(LEAST.length() + 1), 4);
        Check.due("where", x.where(), LEAST.length() - 1);
        Check.due("THE TAPE is empty behind a FAULT", x.size(12), 0);
        Doc.says("3", "how many players.");
        String eight = "";
        for (int i = 1; i <= 8; i++) {
            eight += ";" + PLAYER.replace("player p", "player p" + sign('a' + i));
            Check.due("players", Check.match(x, LAW + ";" + SNOW + eight), i);
            Check.due("trouble", x.trouble(), 0);
        }
    }

    private static void matchBegins() {
        Doc.says("3", "(a GAME at its beginning, SEED 0; no MARKS, nothing SEEN):");
        String text = Lines.law(3, 9, 2, 1) + Lines.snow(7, 7, 1) + Lines.snow(3, 8, 1) + Lines.left("a", 1, 5, 9, 0, 3)
            + Lines.right("b", 1, 9, 0, 0, 3) + Lines.block("w", "left", 0, 0, 9) + Lines.at(0, "a high b") + Lines.at(0, "a goes")
            + Lines.at(1, "b goes") + "guess g weighs 1 flat 9 high 1";
        SnowWalls x = Check.told(text);
        x.start(Draws.seed(0, 69, 0, 50));
        x.hour(3);
        x.mark();
        x.mark();
        x.see(0);
        x.see(1);
        x.finish();
        Check.due("out", x.player(1, 3), 1);
        Check.due("match once more", Check.match(x, text), 2);
        Check.due("as a new object's", Sight.of(x), Sight.of(Check.told(text)));
        Check.match(x, text);
        int[] due = {0, 0, 7, 0, 0, 0};
        for (int what = 7; what <= 12; what++) {
            Check.due("size(" + what + ") of a new MATCH", x.size(what), due[what - 7]);
        }
        Check.due("balls", x.player(0, 1), 3);
        Check.due("x", x.player(0, 0), 5);
        Check.due("thrown", x.player(0, 2), 0);
        Check.due("out", x.player(1, 3), 0);
        Check.due("strong", x.block(0), 9);
        Check.due("sum", x.sum(0), 0);
        Check.due("over", x.over(), 0);
        Check.refused(x, "back in a new MATCH", x.back(0), 1);
        // nothing of the former MATCH is left: no referee, sites, prints, guesses, acts
        x = Calls.State.FULL.make();
        x.match(0);
        Check.tell(x, text);
        Check.due("behind a greater MATCH", Sight.of(x), Sight.of(Check.told(text)));
        x = Calls.State.FULL.make();
        x.match(0);
        Check.tell(x, LEAST + ";referee 19 sees 9");
        Check.due("behind a greater MATCH", Sight.of(x), Sight.of(Check.told(LEAST + ";referee 0 sees 0")));
        Check.tell(x, text);
        Check.due("a first one SEEN", x.see(0), 1);
        Doc.says("3", "NONE: 2 (THE TAPE stays); 4 (the MATCH stays).");
    }

    private static void fault() {
        Doc.says("4", "The FAULT of the latest match() not refused by 2; 0 without one.");
        SnowWalls x = new SnowWalls();
        Check.due("without a match()", x.fault(), 0);
        x.match(1);
        Check.due("behind one refused by 2 alone", x.fault(), 0);
        String[] texts = {"?", "at 1 p", "referee 1 sees 1;referee", "snow 24", "print of left at 0,0;".repeat(7), SNOW};
        for (int i = 0; i < texts.length; i++) {
            Check.match(x, texts[i]);
            Check.due("fault " + (i + 1), x.fault(), i + 1);
            x.match(-1);
            x.match(Integer.MAX_VALUE);
            x.tenth();
            x.dash(1, 1, 1);
            Check.due("fault " + (i + 1) + " behind other calls", x.fault(), i + 1);
        }
        Check.match(x, LEAST);
        Check.due("fault of a MATCH", x.fault(), 0);
        x.match(-1);
        Check.due("fault behind one refused by 2", x.fault(), 0);
        Check.match(x, "?");
        Check.due("fault beside a MATCH", x.fault(), 1);
    }

    private static void where() {
        Doc.says("5", "Its place, if the latest call that may be refused was by 4; NONE else.");
        SnowWalls x = new SnowWalls();
        Check.match(x, "snow 24");
        Check.due("place", x.where(), 5);
        x.where();
        x.fault();
        x.trouble();
        x.size(-1);
        x.feed(0, 0, 0, 0, 0);
        Check.ledThrows(x, 0);
        Check.due("place behind calls that aren't refused by a number", x.where(), 5);
        x.match(-1);
        Check.due("behind a match refused by 2", x.where(), -1);
        Check.due("but the FAULT stays", x.fault(), 4);
        x.match(0);
        Check.match(x, "   ");
        Check.due("the end", x.where(), 3);
        Check.match(x, LEAST);
        Check.due("behind a MATCH", x.where(), -1);
        x.match(0);
        Check.due("place 0", x.where(), 0);
        // each call of which a number is told takes it away, refused or not
        for (Calls.Call call : Calls.answered()) {
            SnowWalls y = new SnowWalls();
            Check.match(y, "snow 24");
            call.made(y);
            Check.due("where behind " + call.name + " without a MATCH", y.where(), -1);
            y = call.state.make();
            Check.feed(y, "?");
            y.match(1);
            Check.due("where", y.where(), 0);
            call.made(y);
            Check.due("where behind " + call.name, y.where(), -1);
        }
    }
}
