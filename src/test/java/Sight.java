/** All that can be seen of an object but TROUBLE and where(). Looking plays the GAME out and takes THE TAPE; some 300 calls. */
final class Sight {
    private final SnowWalls walls;
    private final StringBuilder seen = new StringBuilder();

    private Sight(SnowWalls walls) {
        this.walls = walls;
    }

    static String of(SnowWalls walls) {
        Sight sight = new Sight(walls);
        sight.lookAtAll();
        sight.lookAtTape();
        return sight.seen.toString();
    }

    /** All but the FAULT and THE TAPE. */
    static String ofMatch(SnowWalls walls) {
        Sight sight = new Sight(walls);
        sight.lookAtAll();
        return sight.seen.toString();
    }

    /** The GAME alone, as it is now and played out. */
    static String ofGame(SnowWalls walls) {
        Sight sight = new Sight(walls);
        sight.lookAtGame("now");
        walls.finish();
        sight.lookAtGame("played out");
        return sight.seen.toString();
    }

    private void put(String what, long value) {
        seen.append(what).append(value).append(' ');
    }

    private void lookAtAll() {
        for (int what = 0; what <= 11; what++) {
            put("size" + what + " ", walls.size(what));
        }
        lookAtMatch();
        lookAtGame("now");
        walls.finish();
        lookAtGame("played out");
        for (int mark = 0; mark < walls.size(10); mark++) {
            walls.back(mark);
            lookAtGame("mark " + mark);
        }
    }

    private void lookAtTape() {
        put("fault ", walls.fault());
        put("bytes ", walls.size(12));
        put("match ", walls.match(walls.size(12)));
        put("fault ", walls.fault());
        put("where ", walls.where());
        put("players ", walls.size(0));
    }

    private void lookAtMatch() {
        for (int hour = 0; hour <= 23; hour++) {
            put("", walls.hold(hour));
        }
        put("best ", walls.bestHour());
        for (int guess = 0; guess < walls.size(4); guess++) {
            put("likely ", walls.likely(guess));
        }
        put("carry ", walls.supply(0, 3));
        put("carry ", walls.supply(0, 4));
        put("sites ", walls.build(0, 180));
        put("sites ", walls.build(1, 5));
        put("prints ", walls.ways(1));
    }

    private void lookAtGame(String name) {
        seen.append('\n').append(name).append(": ");
        for (int what = 7; what <= 9; what++) {
            put("size" + what + " ", walls.size(what));
        }
        for (int p = 0; p < walls.size(0); p++) {
            for (int what = 0; what <= 3; what++) {
                put("", walls.player(p, what));
            }
        }
        for (int b = 0; b < walls.size(1); b++) {
            put("block ", walls.block(b));
        }
        for (int what = 0; what <= 4; what++) {
            put("sum ", walls.sum(what));
        }
        put("left ", walls.left(0));
        put("right ", walls.left(1));
        put("over ", walls.over());
        put("winner ", walls.winner());
        put("led ", Check.ledThrows(walls, 0) ? -1 : walls.led(0));
    }
}
