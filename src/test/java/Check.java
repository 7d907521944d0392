import java.nio.charset.StandardCharsets;

/** What the tests share: texts are fed, and answers compared with those that are due. */
final class Check {
    private static int right;
    private static int wrong;

    private Check() {
    }

    static void due(String what, long got, long want) {
        if (got == want) {
            right++;
            return;
        }
        wrong++;
        System.out.println(what + " answered " + got + ", due is " + want);
    }

    static void due(String what, String got, String want) {
        due(what + ": " + got + " where due is " + want, got.equals(want) ? 1 : 0, 1);
    }

    static void due(String what, boolean got, boolean want) {
        due(what, got ? 1 : 0, want ? 1 : 0);
    }

    /** The refused call's answer and TROUBLE. */
    static void refused(SnowWalls walls, String what, long got, long want, int trouble) {
        due(what, got, want);
        due("trouble behind " + what, walls.trouble(), trouble);
    }

    static void refused(SnowWalls walls, String what, long got, int trouble) {
        refused(walls, what, got, -1, trouble);
    }

    /** Makes TROUBLE another one than 0, so that a call that isn't refused is seen to set it back. */
    static void makeTrouble(SnowWalls walls) {
        walls.match(-1);
    }

    static void refused(SnowWalls walls, String what, boolean got, int trouble) {
        refused(walls, what, got ? 1 : 0, 0, trouble);
    }

    /** Ends the test: exit code 1 if an answer was wrong. */
    static void done() {
        System.out.println(right + " answers as due, " + wrong + " wrong");
        if (wrong > 0) {
            System.exit(1);
        }
    }

    /** Feeds a text, with blanks behind it up to twenty bytes each; answers how many bytes the text has. */
    static int feed(SnowWalls walls, String text) {
        byte[] bytes = text.getBytes(StandardCharsets.ISO_8859_1);
        for (int from = 0; from < bytes.length; from += 20) {
            int[] five = new int[5];
            for (int i = 0; i < 20; i++) {
                int sign = from + i < bytes.length ? bytes[from + i] & 255 : ' ';
                five[i / 4] = five[i / 4] << 8 | sign;
            }
            walls.feed(five[0], five[1], five[2], five[3], five[4]);
        }
        return bytes.length;
    }

    static int match(SnowWalls walls, String text) {
        return walls.match(feed(walls, text));
    }

    /** A new object with a MATCH. */
    static SnowWalls told(String lines) {
        SnowWalls walls = new SnowWalls();
        tell(walls, lines);
        return walls;
    }

    /** Gives an object a MATCH; a ; at the end, where other LINES may be put, is left away. */
    static void tell(SnowWalls walls, String lines) {
        String text = lines.endsWith(";") ? lines.substring(0, lines.length() - 1) : lines;
        if (match(walls, text) < 1) {
            due("match of " + text + ": fault " + walls.fault() + " at " + walls.where(), 0, 1);
        }
    }

    /** The FAULT of a text and its place. */
    static void fault(String text, int fault, int place) {
        SnowWalls walls = new SnowWalls();
        due("match of " + text, match(walls, text), -1);
        due("trouble of " + text, walls.trouble(), 4);
        due("fault of " + text, walls.fault(), fault);
        due("where of " + text, walls.where(), place);
    }

    /** Whether led(i) throws, by the very name that the document says. */
    static boolean ledThrows(SnowWalls walls, int i) {
        try {
            walls.led(i);
            return false;
        } catch (java.util.NoSuchElementException e) {
            return e.getClass() == java.util.NoSuchElementException.class;
        }
    }
}
