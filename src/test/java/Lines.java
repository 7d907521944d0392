/** LINES of a text, each with a ; behind it. */
final class Lines {
    private Lines() {
    }

    static String law(int carry, int line, int tenths, int thaws) {
        return "law carry " + carry + " line " + line + " tenths " + tenths + " thaws " + thaws + ";";
    }

    static String snow(int hour, int wet, int deep) {
        return "snow " + hour + " wet " + wet + " deep " + deep + ";";
    }

    static String referee(int x, int sees) {
        return "referee " + x + " sees " + sees + ";";
    }

    private static String spot(String side, int lane, int x) {
        return " of " + side + " at " + lane + "," + x;
    }

    static String block(String name, String side, int lane, int x, int strong) {
        return "block " + name + spot(side, lane, x) + " strong " + strong + ";";
    }

    static String player(String name, String side, int lane, int x, int arm, int dodge, int balls) {
        return "player " + name + spot(side, lane, x) + " arm " + arm + " dodge " + dodge + " balls " + balls + ";";
    }

    static String left(String name, int lane, int x, int arm, int dodge, int balls) {
        return player(name, "left", lane, x, arm, dodge, balls);
    }

    static String right(String name, int lane, int x, int arm, int dodge, int balls) {
        return player(name, "right", lane, x, arm, dodge, balls);
    }

    static String site(String name, String side, int lane, int x, int takes) {
        return "site " + name + spot(side, lane, x) + " takes " + takes + ";";
    }

    static String print(String side, int lane, int x) {
        return "print" + spot(side, lane, x) + ";";
    }

    static String at(int tenth, String act) {
        return "at " + tenth + " " + act + ";";
    }

    static String guess(String name, int weighs, int flat, int high) {
        return "guess " + name + " weighs " + weighs + " flat " + flat + " high " + high + ";";
    }
}
