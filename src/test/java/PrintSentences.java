/** Term III's prints and guesses, and promises 38 to 43, sentence by sentence, at their bounds. */
final class PrintSentences {
    private static final String LAW = Lines.law(3, 9, 9, 0);
    private static final String SNOW = Lines.snow(5, 5, 2);

    private PrintSentences() {
    }

    static void all() {
        prints();
        printsOfThoseThatWent();
        ways();
        waysOfAll();
        who();
        see();
        likely();
        learn();
        next();
    }

    private static void prints() {
        Doc.says("III", "WHO, off by d: each print is of another player of its SIDE, in the lane where that one is;");
        Doc.says("39", "Players whose a print may be, all others being of others, as bits.");
        String four = LAW + SNOW + Lines.left("a", 1, 5, 0, 0, 0) + Lines.right("b", 1, 5, 0, 0, 0) + Lines.left("c", 2, 5, 0, 0, 0)
            + Lines.right("d", 0, 5, 0, 0, 0);
        String[] sides = {"left", "right"};
        int[][] due = {{0, 1, 4, 0, 0}, {8, 2, 0, 0, 0}};
        for (int side = 0; side <= 1; side++) {
            for (int lane = 0; lane <= 4; lane++) {
                SnowWalls x = Check.told(four + Lines.print(sides[side], lane, 5));
                for (int d : new int[] {0, 19}) {
                    String of = sides[side] + " in lane " + lane + ", off by " + d;
                    Check.due("who, " + of, x.who(0, d), due[side][lane]);
                    Check.due("ways, " + of, x.ways(d), due[side][lane] == 0 ? 0 : 1);
                }
            }
        }
        // off by d on either side of one that stays
        for (int at = 0; at <= 19; at++) {
            SnowWalls x = Check.told(LAW + SNOW + Lines.left("a", 1, 12, 0, 0, 0) + Lines.print("left", 1, at));
            int off = Math.abs(at - 12);
            for (int d = 0; d <= 19; d++) {
                Check.due("print at " + at + ", off by " + d, x.who(0, d), d >= off ? 1 : 0);
                Check.due("ways of a print at " + at + ", off by " + d, x.ways(d), d >= off ? 1 : 0);
            }
        }
    }

    private static void printsOfThoseThatWent() {
        Doc.says("III", "its x d beyond at most of all between where that one began and is now.");
        // left goes from 4 to 7, right from 15 to 12
        for (String side : new String[] {"left", "right"}) {
            int low = side.equals("left") ? 4 : 12;
            for (int at = 0; at <= 19; at++) {
                SnowWalls x = Check.told(LAW + SNOW + Lines.player("a", side, 1, side.equals("left") ? 4 : 15, 0, 0, 0)
                    + Lines.player("b", side.equals("left") ? "right" : "left", 3, 9, 0, 0, 0) + Lines.print(side, 1, at)
                    + Lines.at(0, "a goes").repeat(3));
                x.tenth();
                int off = Math.max(0, Math.max(low - at, at - low - 3));
                for (int d : new int[] {0, 1, 2, off, 19}) {
                    Check.due(side + ", print at " + at + ", off by " + d, x.who(0, d), d >= off ? 1 : 0);
                    Check.due(side + ", ways of a print at " + at + ", off by " + d, x.ways(d), d >= off ? 1 : 0);
                }
                if (off > 0) {
                    Check.due(side + ", print at " + at + ", off by less", x.who(0, off - 1), 0);
                }
            }
        }
        // one that is out has prints all the same
        SnowWalls x = Check.told(LAW + SNOW + Lines.left("a", 1, 5, 0, 0, 0) + Lines.left("c", 4, 5, 0, 0, 0)
            + Lines.right("b", 1, 5, 9, 0, 1)
            + Lines.print("left", 1, 5) + "at 0 b flat a");
        x.start(Draws.seed(0, 89, 0, 89));
        x.tenth();
        Check.due("a is out", x.player(0, 3), 1);
        Check.due("whose", x.who(0, 0), 1);
    }

    private static void ways() {
        Doc.says("III", "WAYS: in how many ways all are.");
        Doc.says("38", "WAYS off by d (0 .. 19).");
        String three = LAW + SNOW + Lines.left("a", 1, 3, 0, 0, 0) + Lines.left("b", 1, 5, 0, 0, 0) + Lines.left("c", 1, 7, 0, 0, 0)
            + Lines.right("d", 1, 5, 0, 0, 0);
        Check.due("no prints", Check.told(three).ways(0), 1);
        Check.due("no prints, off by 19", Check.told(three).ways(19), 1);
        SnowWalls x = Check.told(three + Lines.print("left", 1, 5));
        Check.due("one of b", x.ways(0), 1);
        Check.due("one, off by 1", x.ways(1), 1);
        Check.due("one of three", x.ways(2), 3);
        x = Check.told(three + Lines.print("left", 1, 5) + Lines.print("left", 1, 5));
        Check.due("two of one", x.ways(1), 0);
        Check.due("two of three", x.ways(2), 6);
        x = Check.told(three + Lines.print("left", 1, 4) + Lines.print("left", 1, 6));
        Check.due("a or b, b or c: but not both b's", x.ways(1), 3);
        x = Check.told(three + Lines.print("left", 1, 5) + Lines.print("right", 1, 5) + Lines.print("left", 1, 3));
        Check.due("each SIDE its own", x.ways(0), 1);
        x = Check.told(three + Lines.print("left", 1, 5).repeat(4));
        Check.due("four of three", x.ways(19), 0);
        x = Check.told(three + Lines.print("left", 1, 5) + Lines.print("right", 4, 5));
        Check.due("one of them nobody's", x.ways(19), 0);
        Doc.says("38", "NONE: 1 (no MATCH); 2.");
        Calls.refusedBy("38");
        Calls.leavesAll("38");
    }

    private static void waysOfAll() {
        StringBuilder text = new StringBuilder(LAW + SNOW);
        for (int p = 0; p < 8; p++) {
            text.append(Lines.left("p" + (char) ('a' + p), 0, 2 * p, 0, 0, 0));
        }
        int due = 1;
        for (int prints = 1; prints <= 6; prints++) {
            text.append(Lines.print("left", 0, 15));
            due *= 9 - prints;
            SnowWalls x = Check.told(text.toString());
            Check.due(prints + " prints of eight", x.ways(15), due);
            Check.due("off by 14, of seven", x.ways(14), due * (8 - prints) / 8);
            Check.due("whose the last may be", x.who(prints - 1, 15), 255);
            Check.due("whose the first may be", x.who(0, 14), 254);
            Check.due("of two", x.who(0, 3), prints <= 2 ? 192 : 0);
        }
    }

    private static void who() {
        // b's is the only one that may be b's, so the other is a's
        String two = LAW + SNOW + Lines.left("a", 1, 3, 0, 0, 0) + Lines.left("b", 1, 5, 0, 0, 0);
        SnowWalls x = Check.told(two + Lines.print("left", 1, 4) + Lines.print("left", 1, 6));
        Check.due("the second is b's alone", x.who(1, 1), 2);
        Check.due("so the first is a's", x.who(0, 1), 1);
        Check.due("off by 3 either", x.who(0, 3), 3);
        Check.due("off by 3 either", x.who(1, 3), 3);
        // all others must be of others, though this one could be
        x = Check.told(two + Lines.print("left", 1, 4) + Lines.print("left", 1, 19));
        Check.due("the second is nobody's, so that there is none for the first", x.who(0, 1), 0);
        Check.due("no way", x.ways(1), 0);
        Check.due("the second's", x.who(1, 1), 0);
        Check.due("the second's, off by 14", x.who(1, 14), 2);
        // the eighth player's bit
        StringBuilder text = new StringBuilder(LAW + SNOW);
        for (int p = 0; p < 8; p++) {
            text.append(Lines.left("p" + (char) ('a' + p), 0, p == 7 ? 19 : 0, 0, 0, 0));
        }
        Check.due("the eighth's", Check.told(text + Lines.print("left", 0, 19)).who(0, 0), 128);
        Doc.says("39", "NONE: 1; 2.");
        Calls.refusedBy("39");
        Calls.leavesAll("39");
    }

    private static void see() {
        Doc.says("III", "GUESSED: acts of the other lot that are SEEN, up to 14: 0 flat, 1 high, 2 else;");
        Doc.says("40", "SEEN: how many.");
        String text = LAW + SNOW + Lines.left("a", 1, 3, 0, 0, 0) + Lines.guess("f", 1, 10, 0) + Lines.guess("h", 1, 0, 10)
            + Lines.guess("e", 1, 0, 0);
        for (int act = 0; act <= 2; act++) {
            SnowWalls x = Check.told(text);
            long due = 1;
            for (int many = 1; many <= 14; many++) {
                x.match(-1);
                Check.due("see(" + act + ")", x.see(act), many);
                Check.due("trouble", x.trouble(), 0);
                due *= 10;
                for (int guess = 0; guess <= 2; guess++) {
                    Check.due("LIKELY of guess " + guess, x.likely(guess), guess == act ? due : 0);
                }
            }
            Check.refused(x, "a fifteenth", x.see(act), 3);
            Check.due("SEEN", x.size(11), 14);
            Check.due("LIKELY as it was", x.likely(act), due);
            // a GAME anew, or a MARK, leaves them
            x.mark();
            x.start(5);
            x.back(0);
            Check.due("SEEN", x.size(11), 14);
        }
        SnowWalls x = Check.told(text);
        String untold = Sight.of(Check.told(text));
        x.see(0);
        Check.tell(x, text);
        Check.due("nothing SEEN in a new MATCH", Sight.of(x), untold);
        Doc.says("40", "NONE: 1 (no MATCH); 2 (act 0 .. 2); 3.");
        Calls.refusedBy("40");
        // of the MATCH nothing but SEEN and LIKELY
        SnowWalls seen = Calls.State.BARE.make();
        seen.see(1);
        Check.due("only SEEN", Sight.of(seen).replace("size11 1", "size11 0"), Sight.of(Calls.State.BARE.make()));
    }

    private static void likely() {
        Doc.says("III", "LIKELY: weighs times tenths of each: flat, high, 10 less both.");
        Doc.says("41", "LIKELY of a guess.");
        int[][] guesses = {{1, 0, 0}, {99, 10, 0}, {7, 0, 10}, {5, 3, 4}};
        StringBuilder text = new StringBuilder(LAW + SNOW + Lines.left("a", 1, 3, 0, 0, 0));
        for (int g = 0; g < 4; g++) {
            text.append(Lines.guess("g" + (char) ('a' + g), guesses[g][0], guesses[g][1], guesses[g][2]));
        }
        int[][] acts = {{}, {0}, {1}, {2}, {0, 1, 2}, {2, 2, 0}, {0, 0, 0, 0, 0, 0, 0, 0, 0, 0, 0, 0, 0, 0},
            {1, 1, 1, 1, 1, 1, 1, 1, 1, 1, 1, 1, 1, 1}, {2, 2, 2, 2, 2, 2, 2, 2, 2, 2, 2, 2, 2, 2}};
        for (int[] seen : acts) {
            SnowWalls x = Check.told(text.toString());
            for (int act : seen) {
                x.see(act);
            }
            for (int g = 0; g < 4; g++) {
                long due = guesses[g][0];
                for (int act : seen) {
                    due *= act == 0 ? guesses[g][1] : act == 1 ? guesses[g][2] : 10 - guesses[g][1] - guesses[g][2];
                }
                Check.due("LIKELY of guess " + g + " behind " + seen.length, x.likely(g), due);
            }
        }
        SnowWalls x = Check.told(text.toString());
        for (int i = 0; i < 14; i++) {
            x.see(0);
        }
        Check.due("the most that is", x.likely(1), 9900000000000000L);
        Doc.says("41", "-1: 1.");
        Calls.refusedBy("41");
        Calls.leavesAll("41");
    }

    private static int learned(String guesses, int... seen) {
        SnowWalls x = Check.told(LAW + SNOW + Lines.left("a", 1, 3, 0, 0, 0) + guesses);
        for (int act : seen) {
            x.see(act);
        }
        x.match(-1);
        int guess = x.learn();
        Check.due("trouble", x.trouble(), 0);
        return guess;
    }

    private static void learn() {
        Doc.says("42", "The guess that is LIKELY most, the first such.");
        Check.due("one guess", learned(Lines.guess("g", 1, 1, 1)), 0);
        Check.due("the heavier", learned(Lines.guess("g", 1, 1, 1) + Lines.guess("h", 2, 1, 1)), 1);
        Check.due("the heavier first", learned(Lines.guess("g", 3, 1, 1) + Lines.guess("h", 2, 1, 1)), 0);
        String four = Lines.guess("g", 6, 5, 5) + Lines.guess("h", 5, 6, 4) + Lines.guess("i", 3, 10, 0) + Lines.guess("j", 6, 5, 2);
        Check.due("like ones: the first", learned(four), 0);
        Check.due("30, 30, 30, 30: the first", learned(four, 0), 0);
        Check.due("150, 180, 300, 150", learned(four, 0, 0), 2);
        Check.due("30, 20, 0, 12", learned(four, 1), 0);
        Check.due("0, 0, 0, 18", learned(four, 2), 3);
        Check.due("0 of all", learned(Lines.guess("g", 1, 10, 0) + Lines.guess("h", 99, 10, 0), 1), 0);
        // beyond what an int holds, and one apart
        int[] flat = {0, 0, 0, 0, 0, 0, 0, 0, 0, 0, 0, 0, 0, 0};
        Check.due("large ones", learned(Lines.guess("g", 98, 10, 0) + Lines.guess("h", 99, 10, 0), flat), 1);
        Check.due("large like ones", learned(Lines.guess("g", 99, 10, 0) + Lines.guess("h", 99, 10, 0), flat), 0);
        Doc.says("42", "NONE: 1 (no MATCH); 6 (no guess).");
        Calls.refusedBy("42");
        Calls.leavesAll("42");
    }

    private static void next() {
        Doc.says("43", "The act that guess most LIKELY makes most tenths of, the first such.");
        for (int flat = 0; flat <= 10; flat++) {
            for (int high = 0; high <= 10 - flat; high++) {
                int other = 10 - flat - high;
                int due = flat >= high && flat >= other ? 0 : high >= other ? 1 : 2;
                SnowWalls x = Check.told(LAW + SNOW + Lines.left("a", 1, 3, 0, 0, 0) + Lines.guess("g", 1, flat, high));
                x.match(-1);
                Check.due("flat " + flat + ", high " + high, x.next(), due);
                Check.due("trouble", x.trouble(), 0);
            }
        }
        // of the guess most LIKELY, which changes as acts are SEEN
        SnowWalls x = Check.told(LAW + SNOW + Lines.left("a", 1, 3, 0, 0, 0) + Lines.guess("g", 9, 6, 1) + Lines.guess("h", 9, 1, 7));
        Check.due("the first of like ones", x.next(), 0);
        x.see(1);
        Check.due("h's", x.next(), 1);
        x.see(2);
        Check.due("9 times 1 times 3, 9 times 7 times 2", x.next(), 1);
        x.see(0);
        Check.due("162, 126", x.next(), 0);
        Doc.says("43", "NONE: likewise.");
        Calls.refusedBy("43");
        Calls.leavesAll("43");
    }
}
