/** The example of README.md, as it stands there; ReadmeTest looks at both. */
public final class Example {
    public static void main(String[] args) {
        SnowWalls walls = new SnowWalls();
        int players = tell(walls, "law carry 2 line 10 tenths 4 thaws 2; snow 9 wet 5 deep 3;"
            + " block w of right at 1,12 strong 2;"
            + " player a of left at 1,5 arm 4 dodge 2 balls 2; player c of right at 1,14 arm 2 dodge 5 balls 1;"
            + " at 0 a flat c; at 1 a high c; at 2 c high a; at 2 a makes");
        System.out.println(players + " players, the block's strength " + walls.block(0));

        System.out.println("of a hundred, flat " + walls.chance(0, 1, false) + ", high " + walls.chance(0, 1, true));
        System.out.println("hidden by block " + walls.hidden(0, 1));

        walls.start(1);
        walls.tenth();
        System.out.println("behind a tenth the block's strength " + walls.block(0) + ", SEED " + walls.size(8));
        int begun = walls.mark();
        walls.finish();
        System.out.println("thrown " + walls.sum(0) + ", hits " + walls.sum(3) + ", winner " + walls.winner());
        walls.back(begun);
        System.out.println("again behind " + walls.size(7) + " tenth; left wins " + walls.wins(0, 60) + " of 60");

        System.out.println("no such player: " + walls.player(2, 0) + ", trouble " + walls.trouble());
        int refused = tell(walls, "law carry 2 line 11 tenths 4 thaws 2");
        System.out.println(refused + ", trouble " + walls.trouble() + ", fault " + walls.fault() + " at " + walls.where());
    }

    /** Feeds a text, twenty bytes a call, with blanks behind its end; answers what match does. */
    private static int tell(SnowWalls walls, String text) {
        for (int from = 0; from < text.length(); from += 20) {
            int[] five = new int[5];
            for (int i = 0; i < 20; i++) {
                int sign = from + i < text.length() ? text.charAt(from + i) : ' ';
                five[i / 4] = five[i / 4] << 8 | sign;
            }
            walls.feed(five[0], five[1], five[2], five[3], five[4]);
        }
        return walls.match(text.length());
    }
}
