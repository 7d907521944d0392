import java.util.NoSuchElementException;

/** Two lots that throw snow at each other from behind walls of it. README.md tells how to use it. */
public final class SnowWalls {
    public static final int NONE = -1;

    /** The answer of a call that isn't refused, but finds none. */
    private static final int NEVER = -2;

    private static final int LEFT = 0;
    private static final int RIGHT = 1;
    private static final int NEITHER = 2;

    // TROUBLE
    private static final int NO_SUCH = 1;
    private static final int BAD_NUMBER = 2;
    private static final int NO_ROOM = 3;
    private static final int FAULTY = 4;
    private static final int NOT_SO = 5;
    private static final int NOTHING_THERE = 6;

    private static final int BYTES_OF_FEED = 20;
    private static final int MARKS = 4;
    private static final int MOST_SEEN = 14;
    private static final int LONGEST_LEAGUE = 60;
    private static final int MOST_RUNNERS = 9;
    private static final int MOST_THROWS = 8;
    private static final int MOST_MINUTES = 180;
    private static final int MOST_TENTHS_MORE = 200;
    private static final int MOST_OFF = 19;
    private static final int NO_BALANCE = -1000;

    // what the other one does in a DUEL
    private static final int STANDS_STILL = 0;
    private static final int DUCKS_AWAY = 1;
    private static final int SIDESTEPS = 2;

    private final Tape tape;
    private final Match match;
    private final Reader trial;
    private final Reader reader;
    private final Game game;
    private final Game league;
    private final Row leagueWins;
    private final Game[] marks;
    private final Building building;
    private final Trail trail;
    private final Row seen;
    private int markCount;
    private int seenCount;
    private boolean told;
    private int trouble;
    private int fault;
    private int place;

    public SnowWalls() {
        tape = new Tape();
        match = new Match();
        trial = new Reader(tape, new Match());
        reader = new Reader(tape, match);
        game = new Game(match);
        league = new Game(match);
        leagueWins = new Row(NEITHER + 1);
        marks = new Game[MARKS];
        for (int i = 0; i < marks.length; i++) {
            marks[i] = new Game(match);
        }
        building = new Building(match, game);
        trail = new Trail(match, game);
        seen = new Row(Guesses.ACTS);
    }

    // ---- the match

    public int feed(int a, int b, int c, int d, int e) {
        if (!tape.hasRoomFor(BYTES_OF_FEED)) {
            return NONE;
        }
        tape.addNumber(a);
        tape.addNumber(b);
        tape.addNumber(c);
        tape.addNumber(d);
        tape.addNumber(e);
        return tape.length;
    }

    public int match(int n) {
        if (n < 0 || n > tape.length) {
            return refuse(BAD_NUMBER);
        }
        // read on trial first, since a text with a FAULT must leave the MATCH as it was
        fault = trial.read(n);
        if (fault == 0) {
            reader.read(n);
        }
        tape.clear();
        if (fault != 0) {
            place = trial.place;
            return refuse(FAULTY);
        }
        told = true;
        markCount = 0;
        seenCount = 0;
        seen.clear();
        game.begin(0, match.snows.rowOf(match.snows.hour.at(0)));
        return answer(match.players.count);
    }

    public int fault() {
        return fault;
    }

    public int where() {
        return trouble == FAULTY ? place : NONE;
    }

    // ---- games

    public boolean start(int seed) {
        if (!told) {
            return refuseFlatly(NO_SUCH);
        }
        if (seed < 0 || seed >= Game.SEEDS) {
            return refuseFlatly(BAD_NUMBER);
        }
        game.begin(seed, game.snow);
        return agree();
    }

    public boolean hour(int h) {
        int snow = match.snows.rowOf(h);
        if (snow == NONE) {
            return refuseFlatly(NO_SUCH);
        }
        game.snow = snow;
        return agree();
    }

    public int tenth() {
        if (!told) {
            return refuse(NO_SUCH);
        }
        if (game.isOver()) {
            return refuse(NOT_SO);
        }
        game.passTenth();
        return answer(game.passed);
    }

    public int finish() {
        if (!told) {
            return refuse(NO_SUCH);
        }
        return answer(game.playOut());
    }

    public int over() {
        if (!told) {
            return refuse(NO_SUCH);
        }
        return answer(game.isOver() ? 1 : 0);
    }

    public int winner() {
        if (!told) {
            return refuse(NO_SUCH);
        }
        if (!game.isOver()) {
            return refuse(NOT_SO);
        }
        return answer(game.winnerNow());
    }

    public int player(int p, int what) {
        if (!match.players.has(p)) {
            return refuse(NO_SUCH);
        }
        switch (what) {
            case 0:
                return answer(game.x.at(p));
            case 1:
                return answer(game.balls.at(p));
            case 2:
                return answer(game.thrown.at(p));
            case 3:
                return answer(game.out.at(p));
            default:
                return refuse(NO_SUCH);
        }
    }

    public int block(int b) {
        if (!match.blocks.has(b)) {
            return refuse(NO_SUCH);
        }
        return answer(game.strong.at(b));
    }

    public int left(int side) {
        if (!told || !isSide(side)) {
            return refuse(NO_SUCH);
        }
        return answer(game.leftOf(side));
    }

    public int sum(int what) {
        if (!told || what < 0 || what >= Game.SUMS) {
            return refuse(NO_SUCH);
        }
        return answer(game.sums.at(what));
    }

    public int hold(int h) {
        int snow = match.snows.rowOf(h);
        if (snow == NONE) {
            return refuse(NO_SUCH);
        }
        return answer(match.snows.holdOf(snow));
    }

    public int bestHour() {
        if (!told) {
            return refuse(NO_SUCH);
        }
        return answer(match.snows.hour.at(match.snows.bestRow()));
    }

    public int mark() {
        if (!told) {
            return refuse(NO_SUCH);
        }
        int number = markCount;
        if (number < 0 || number >= marks.length) {
            return refuse(NO_ROOM);
        }
        marks[number].copy(game);
        markCount++;
        return answer(number);
    }

    public boolean back(int mark) {
        if (mark < 0 || mark >= markCount || mark >= marks.length) {
            return refuseFlatly(NO_SUCH);
        }
        game.copy(marks[mark]);
        return agree();
    }

    public int wins(int side, int n) {
        if (!told || side < LEFT || side > NEITHER) {
            return refuse(NO_SUCH);
        }
        if (!isLeague(n)) {
            return refuse(BAD_NUMBER);
        }
        playLeague(n);
        return answer(leagueWins.at(side));
    }

    public int fair(int n) {
        if (!told) {
            refuse(NO_SUCH);
            return NO_BALANCE;
        }
        if (!isLeague(n)) {
            refuse(BAD_NUMBER);
            return NO_BALANCE;
        }
        playLeague(n);
        return answer(leagueWins.at(LEFT) - leagueWins.at(RIGHT));
    }

    // ---- throws

    public int chance(int p, int q, boolean high) {
        if (!areOpposed(p, q)) {
            return refuse(NO_SUCH);
        }
        return answer(game.chanceOf(p, q, high, match.players.dodge.at(q), false));
    }

    public int hidden(int p, int q) {
        if (!areOpposed(p, q)) {
            return refuse(NO_SUCH);
        }
        int block = game.nearest(match.blocks, game.strong, p, q);
        return answer(block == NONE ? NEVER : block);
    }

    public int odds(int p, int q, boolean high) {
        if (!areOpposed(p, q)) {
            return refuse(NO_SUCH);
        }
        return answer(oddsOf(p, q, high, match.players.dodge.at(q)));
    }

    public int pair(int p, int r, int q) {
        if (!arePair(p, r, q)) {
            return refuse(NO_SUCH);
        }
        return answer(pairOdds(p, r, q, 0));
    }

    public int gain(int p, int r, int q) {
        if (!arePair(p, r, q)) {
            return refuse(NO_SUCH);
        }
        return answer(pairOdds(p, r, q, 0) - pairOdds(p, r, q, match.players.dodge.at(q)));
    }

    public long dash(int run, int throwsMany, int c) {
        if (run < 1 || run > MOST_RUNNERS || !areThrows(throwsMany, c)) {
            return refuse(BAD_NUMBER);
        }
        trouble = 0;
        return dashWays(run, throwsMany, c);
    }

    public int runners(int throwsMany, int c, int w) {
        if (!areThrows(throwsMany, c) || w < 0 || w > 100) {
            return refuse(BAD_NUMBER);
        }
        long all = power(100, throwsMany);
        for (int run = 1; run <= MOST_RUNNERS; run++) {
            if (dashWays(run, throwsMany, c) * 100 >= all * w) {
                return answer(run);
            }
        }
        return answer(NEVER);
    }

    // ---- building, duels

    public int hides(int sites) {
        if (!told) {
            return refuse(NO_SUCH);
        }
        int ofLeft = building.sitesOf(LEFT);
        int ofRight = building.sitesOf(RIGHT);
        boolean onlyLeft = (sites & ~ofLeft) == 0;
        boolean onlyRight = (sites & ~ofRight) == 0;
        if (!onlyLeft && !onlyRight) {
            return refuse(BAD_NUMBER);
        }
        if (sites == 0) {
            return answer(0);
        }
        return answer(building.countHidden(onlyLeft ? LEFT : RIGHT, sites));
    }

    public int build(int side, int minutes) {
        if (!told || !isSide(side)) {
            return refuse(NO_SUCH);
        }
        if (minutes < 0 || minutes > MOST_MINUTES) {
            return refuse(BAD_NUMBER);
        }
        return answer(building.bestSites(side, minutes));
    }

    public int least(int p, int q) {
        if (!areOpposed(p, q)) {
            return refuse(NO_SUCH);
        }
        return answer(Math.max(duelWorth(p, q, 100), duelWorth(p, q, 0)) / 100);
    }

    public int most(int p, int q) {
        if (!areOpposed(p, q)) {
            return refuse(NO_SUCH);
        }
        int lowest = 100;
        for (int does = STANDS_STILL; does <= SIDESTEPS; does++) {
            int greater = Math.max(duelChance(p, q, false, does), duelChance(p, q, true, does));
            lowest = Math.min(lowest, greater);
        }
        return answer(lowest);
    }

    public int mix(int p, int q) {
        if (!areOpposed(p, q)) {
            return refuse(NO_SUCH);
        }
        return answer(bestMix(p, q));
    }

    public int rests(int p, int q) {
        if (!areOpposed(p, q)) {
            return refuse(NO_SUCH);
        }
        return answer(duelWorth(p, q, bestMix(p, q)));
    }

    // ---- supply, thaw

    public int supply(int side, int n) {
        if (!told || !isSide(side)) {
            return refuse(NO_SUCH);
        }
        if (n < 0 || n > match.carry) {
            return refuse(BAD_NUMBER);
        }
        return answer(game.rollsNeeded(side, n));
    }

    public int stands(int block, int n) {
        if (!match.blocks.has(block)) {
            return refuse(NO_SUCH);
        }
        if (n < 0 || n > MOST_TENTHS_MORE) {
            return refuse(BAD_NUMBER);
        }
        return answer(game.strengthBehind(block, n));
    }

    public int falls(int block) {
        if (!match.blocks.has(block)) {
            return refuse(NO_SUCH);
        }
        return answer(game.fallsBehind(block, MOST_TENTHS_MORE));
    }

    // ---- prints, guesses

    public int ways(int d) {
        if (!told) {
            return refuse(NO_SUCH);
        }
        if (d < 0 || d > MOST_OFF) {
            return refuse(BAD_NUMBER);
        }
        return answer(trail.countWays(d));
    }

    public int who(int print, int d) {
        if (!match.prints.has(print)) {
            return refuse(NO_SUCH);
        }
        if (d < 0 || d > MOST_OFF) {
            return refuse(BAD_NUMBER);
        }
        return answer(trail.ownersOf(print, d));
    }

    public int see(int act) {
        if (!told) {
            return refuse(NO_SUCH);
        }
        if (act < 0 || act >= Guesses.ACTS) {
            return refuse(BAD_NUMBER);
        }
        if (seenCount >= MOST_SEEN) {
            return refuse(NO_ROOM);
        }
        seen.add(act, 1);
        seenCount++;
        return answer(seenCount);
    }

    public long likely(int guess) {
        if (!match.guesses.has(guess)) {
            return refuse(NO_SUCH);
        }
        trouble = 0;
        return match.guesses.weightOf(guess, seen);
    }

    public int learn() {
        if (!told) {
            return refuse(NO_SUCH);
        }
        if (match.guesses.count == 0) {
            return refuse(NOTHING_THERE);
        }
        return answer(match.guesses.heaviest(seen));
    }

    public int next() {
        if (!told) {
            return refuse(NO_SUCH);
        }
        if (match.guesses.count == 0) {
            return refuse(NOTHING_THERE);
        }
        return answer(match.guesses.commonAct(match.guesses.heaviest(seen)));
    }

    public int led(int i) throws NoSuchElementException {
        int before = 0;
        for (int p = 0; p < match.players.count; p++) {
            if (game.out.at(p) != 0) {
                if (before == i) {
                    return p;
                }
                before++;
            }
        }
        throw new NoSuchElementException("no such player is out");
    }

    public int size(int what) {
        switch (what) {
            case 0:
                return match.players.count;
            case 1:
                return match.blocks.count;
            case 2:
                return match.sites.count;
            case 3:
                return match.prints.count;
            case 4:
                return match.guesses.count;
            case 5:
                return match.acts.count;
            case 6:
                return match.snows.count;
            case 7:
                return game.passed;
            case 8:
                return game.seed;
            case 9:
                return match.snows.hour.at(game.snow);
            case 10:
                return markCount;
            case 11:
                return seenCount;
            case 12:
                return tape.length;
            default:
                return NONE;
        }
    }

    public int trouble() {
        return trouble;
    }

    // ---- what the calls share

    private int refuse(int why) {
        trouble = why;
        return NONE;
    }

    private boolean refuseFlatly(int why) {
        trouble = why;
        return false;
    }

    private int answer(int value) {
        trouble = 0;
        return value;
    }

    private boolean agree() {
        trouble = 0;
        return true;
    }

    private static boolean isSide(int side) {
        return side == LEFT || side == RIGHT;
    }

    private static boolean isLeague(int n) {
        return n >= 1 && n <= LONGEST_LEAGUE;
    }

    private static boolean areThrows(int throwsMany, int c) {
        return throwsMany >= 0 && throwsMany <= MOST_THROWS && c >= 0 && c <= 100;
    }

    private boolean areOpposed(int p, int q) {
        Spots players = match.players;
        return players.has(p) && players.has(q) && players.side.at(p) != players.side.at(q);
    }

    private boolean arePair(int p, int r, int q) {
        return p != r && areOpposed(p, q) && areOpposed(r, q);
    }

    private void playLeague(int n) {
        leagueWins.clear();
        for (int i = 0; i < n; i++) {
            league.begin((game.seed + i) % Game.SEEDS, game.snow);
            league.playOut();
            leagueWins.add(league.winnerNow(), 1);
        }
    }

    private int oddsOf(int p, int q, boolean high, int dodge) {
        return game.chanceOf(p, q, high, dodge, false) * match.snows.holdOf(game.snow);
    }

    private int pairOdds(int p, int r, int q, int dodge) {
        int missesFlat = 10000 - oddsOf(p, q, false, dodge);
        int missesHigh = 10000 - oddsOf(r, q, true, dodge);
        return 100000000 - missesFlat * missesHigh;
    }

    private static long dashWays(int run, int throwsMany, int c) {
        long all = 0;
        long choices = 1;
        for (int hits = 0; hits < run && hits <= throwsMany; hits++) {
            all += choices * power(c, hits) * power(100 - c, throwsMany - hits);
            choices = choices * (throwsMany - hits) / (hits + 1);
        }
        return all;
    }

    private static long power(int base, int times) {
        long product = 1;
        for (int i = 0; i < times; i++) {
            product *= base;
        }
        return product;
    }

    private int duelChance(int p, int q, boolean high, int does) {
        if (!high && does == DUCKS_AWAY) {
            return 0;
        }
        int dodge = match.players.dodge.at(q) * (does == SIDESTEPS ? 2 : 1);
        return game.chanceOf(p, q, high, dodge, does == DUCKS_AWAY);
    }

    /** What is sure, of 10,000, if so many of a hundred throws are flat and the others high. */
    private int duelWorth(int p, int q, int flat) {
        int lowest = 10000;
        for (int does = STANDS_STILL; does <= SIDESTEPS; does++) {
            int worth = flat * duelChance(p, q, false, does) + (100 - flat) * duelChance(p, q, true, does);
            lowest = Math.min(lowest, worth);
        }
        return lowest;
    }

    private int bestMix(int p, int q) {
        int best = 0;
        int bestWorth = duelWorth(p, q, 0);
        for (int flat = 1; flat <= 100; flat++) {
            int worth = duelWorth(p, q, flat);
            if (worth > bestWorth) {
                best = flat;
                bestWorth = worth;
            }
        }
        return best;
    }

    /** A row of numbers; every index is looked at here, so that it need not be where rows are used. */
    private static final class Row {
        private final int[] cells;

        Row(int room) {
            cells = new int[room > 0 ? room : 0];
        }

        int at(int i) {
            return i >= 0 && i < cells.length ? cells[i] : 0;
        }

        void put(int i, int value) {
            if (i >= 0 && i < cells.length) {
                cells[i] = value;
            }
        }

        void add(int i, int more) {
            if (i >= 0 && i < cells.length) {
                cells[i] += more;
            }
        }

        void clear() {
            for (int i = 0; i < cells.length; i++) {
                cells[i] = 0;
            }
        }

        void copy(Row from) {
            for (int i = 0; i < cells.length; i++) {
                cells[i] = from.at(i);
            }
        }
    }

    /** THE TAPE, and the TOKEN on it that is read just now: the bytes from place, ahead of after. */
    private static final class Tape {
        static final int ROOM = 900;

        // kinds of TOKENS
        static final int END = 0;
        static final int WORD = 1;
        static final int WHOLE = 2;
        static final int SEMICOLON = 3;
        static final int COMMA = 4;
        static final int NO_TOKEN = 5;

        private static final int LONGEST_WORD = 8;
        private static final int LONGEST_WHOLE = 3;

        private final Row bytes;
        int length;
        int kind;
        int place;
        private int after;
        private int end;

        Tape() {
            bytes = new Row(ROOM);
        }

        boolean hasRoomFor(int more) {
            return length + more <= ROOM;
        }

        void addNumber(int number) {
            for (int shift = 24; shift >= 0; shift -= 8) {
                bytes.put(length, (number >>> shift) & 255);
                length++;
            }
        }

        void clear() {
            length = 0;
        }

        void open(int textLength) {
            end = Math.min(textLength, length);
            after = 0;
            step();
        }

        void step() {
            while (after < end && bytes.at(after) == ' ') {
                after++;
            }
            place = after;
            kind = after < end ? kindOf(bytes.at(after)) : END;
            if (after < end) {
                after++;
            }
            if (kind != WORD && kind != WHOLE) {
                return;
            }
            while (after < end && kindOf(bytes.at(after)) == kind) {
                after++;
            }
            // letters or digits that stand together are one TOKEN or, if there are too many, none
            if (after - place > (kind == WORD ? LONGEST_WORD : LONGEST_WHOLE)) {
                kind = NO_TOKEN;
            }
        }

        private static int kindOf(int sign) {
            if (sign >= 'a' && sign <= 'z') {
                return WORD;
            }
            if (sign >= '0' && sign <= '9') {
                return WHOLE;
            }
            if (sign == ';') {
                return SEMICOLON;
            }
            return sign == ',' ? COMMA : NO_TOKEN;
        }

        boolean isWord(String word) {
            if (kind != WORD || after - place != word.length()) {
                return false;
            }
            for (int i = 0; i < word.length(); i++) {
                if (bytes.at(place + i) != word.charAt(i)) {
                    return false;
                }
            }
            return true;
        }

        int wholeValue() {
            int value = 0;
            for (int i = place; i < after; i++) {
                value = value * 10 + bytes.at(i) - '0';
            }
            return value;
        }

        /** The WORD as a number: a letter takes five bits, so that eight letters have room. */
        long wordCode() {
            long code = 0;
            for (int i = place; i < after; i++) {
                code = code * 32 + bytes.at(i) - 'a' + 1;
            }
            return code;
        }
    }

    /** Reads THE TEXT into its match; behind a FAULT all that it is asked for is passed over. */
    private static final class Reader {
        // FAULTS
        private static final int FORM = 1;
        private static final int NOT_TOLD = 2;
        private static final int TOLD_AGAIN = 3;
        private static final int OUT_OF_BOUNDS = 4;
        private static final int MANY = 5;
        private static final int LACKS = 6;

        // sorts of NAMES
        private static final int PLAYER = 0;
        private static final int BLOCK = 1;
        private static final int SITE = 2;
        private static final int GUESS = 3;

        private static final int NAMES = Spots.PLAYERS + Spots.BLOCKS + Spots.SITES + Guesses.ROOM;

        private final Tape tape;
        private final Match match;
        private final long[] names;
        private final Row sorts;
        private final Row numbers;
        private int nameCount;
        private int fault;
        int place;

        Reader(Tape tape, Match match) {
            this.tape = tape;
            this.match = match;
            names = new long[NAMES];
            sorts = new Row(NAMES);
            numbers = new Row(NAMES);
        }

        /** Reads so many bytes; answers the FAULT. */
        int read(int length) {
            match.clear();
            nameCount = 0;
            fault = 0;
            place = NONE;
            tape.open(length);
            boolean more = true;
            for (int lines = 0; more && lines <= Tape.ROOM; lines++) {
                if (tape.isWord("law")) {
                    readLaw();
                } else if (tape.isWord("snow")) {
                    readSnow();
                } else if (tape.isWord("referee")) {
                    readReferee();
                } else if (tape.isWord("block")) {
                    readNamedSpot(match.blocks, BLOCK, "strong", 9);
                } else if (tape.isWord("player")) {
                    readPlayer();
                } else if (tape.isWord("site")) {
                    readNamedSpot(match.sites, SITE, "takes", 30);
                } else if (tape.isWord("print")) {
                    readPrint();
                } else if (tape.isWord("at")) {
                    readAct();
                } else if (tape.isWord("guess")) {
                    readGuess();
                } else {
                    fail(FORM);
                }
                more = fault == 0 && tape.kind == Tape.SEMICOLON;
                if (more) {
                    tape.step();
                }
            }
            if (tape.kind != Tape.END) {
                fail(FORM);
            }
            if (match.lacksSome()) {
                fail(LACKS);
            }
            return fault;
        }

        private void readLaw() {
            if (match.hasLaw) {
                fail(TOLD_AGAIN);
            }
            openLine(false);
            match.hasLaw = true;
            match.carry = wholeBehind("carry", 1, 9);
            match.line = wholeBehind("line", 0, 10);
            match.tenths = wholeBehind("tenths", 1, 99);
            match.thaws = wholeBehind("thaws", 0, 20);
        }

        private void readSnow() {
            openLine(match.snows.isFull());
            int hour = whole(0, 23);
            int wet = wholeBehind("wet", 0, 9);
            int deep = wholeBehind("deep", 0, 9);
            match.snows.append(hour, wet, deep);
        }

        private void readReferee() {
            if (match.hasReferee) {
                fail(TOLD_AGAIN);
            }
            openLine(false);
            match.hasReferee = true;
            match.refereeX = whole(0, 19);
            match.sees = wholeBehind("sees", 0, 9);
        }

        private void readNamedSpot(Spots spots, int sort, String word, int highest) {
            openLine(spots.isFull());
            int number = spots.count;
            readNewName(sort, number);
            readSpot(spots);
            spots.worth.put(number, wholeBehind(word, 1, highest));
        }

        private void readPlayer() {
            Spots players = match.players;
            openLine(players.isFull());
            int number = players.count;
            readNewName(PLAYER, number);
            readSpot(players);
            players.arm.put(number, wholeBehind("arm", 0, 9));
            players.dodge.put(number, wholeBehind("dodge", 0, 9));
            players.worth.put(number, wholeBehind("balls", 0, 9));
        }

        private void readPrint() {
            openLine(match.prints.isFull());
            readSpot(match.prints);
        }

        private void readSpot(Spots spots) {
            takeWord("of");
            int side = tape.isWord("right") ? RIGHT : LEFT;
            takeWord(side == RIGHT ? "right" : "left");
            takeWord("at");
            int lane = whole(0, 4);
            takeComma();
            int x = whole(0, 19);
            spots.append(side, lane, x);
        }

        private void readAct() {
            openLine(match.acts.isFull());
            int tenth = whole(0, 98);
            int player = toldPlayer();
            int kind = actKind();
            if (kind == NONE) {
                fail(FORM);
            }
            if (fault == 0) {
                tape.step();
            }
            int other = Acts.hasOther(kind) ? toldPlayer() : NONE;
            match.acts.append(tenth, player, kind, other);
        }

        private int actKind() {
            if (tape.isWord("flat")) {
                return Acts.FLAT;
            }
            if (tape.isWord("high")) {
                return Acts.HIGH;
            }
            if (tape.isWord("rolls")) {
                return Acts.ROLLS;
            }
            if (tape.isWord("makes")) {
                return Acts.MAKES;
            }
            if (tape.isWord("goes")) {
                return Acts.GOES;
            }
            return tape.isWord("ducks") ? Acts.DUCKS : NONE;
        }

        private void readGuess() {
            openLine(match.guesses.isFull());
            readNewName(GUESS, match.guesses.count);
            int weighs = wholeBehind("weighs", 1, 99);
            int flat = wholeBehind("flat", 0, 10);
            int high = wholeBehind("high", 0, 10 - flat);
            match.guesses.append(weighs, flat, high);
        }

        private void fail(int number) {
            if (fault == 0) {
                fault = number;
                place = tape.place;
            }
        }

        /** Goes on behind the first WORD of a LINE for which there is room, or isn't. */
        private void openLine(boolean full) {
            if (full) {
                fail(MANY);
            }
            if (fault == 0) {
                tape.step();
            }
        }

        private void takeWord(String word) {
            if (!tape.isWord(word)) {
                fail(FORM);
            }
            if (fault == 0) {
                tape.step();
            }
        }

        private void takeComma() {
            if (tape.kind != Tape.COMMA) {
                fail(FORM);
            }
            if (fault == 0) {
                tape.step();
            }
        }

        private int wholeBehind(String word, int lowest, int highest) {
            takeWord(word);
            return whole(lowest, highest);
        }

        private int whole(int lowest, int highest) {
            if (tape.kind != Tape.WHOLE) {
                fail(FORM);
            }
            int value = tape.wholeValue();
            if (value < lowest || value > highest) {
                fail(OUT_OF_BOUNDS);
            }
            if (fault != 0) {
                return NONE;
            }
            tape.step();
            return value;
        }

        private void readNewName(int sort, int number) {
            if (!isName()) {
                fail(FORM);
            }
            long code = tape.wordCode();
            if (rowOf(code) != NONE) {
                fail(TOLD_AGAIN);
            }
            if (fault == 0 && nameCount >= 0 && nameCount < names.length) {
                names[nameCount] = code;
                sorts.put(nameCount, sort);
                numbers.put(nameCount, number);
                nameCount++;
                tape.step();
            }
        }

        private int toldPlayer() {
            if (!isName()) {
                fail(FORM);
            }
            int row = rowOf(tape.wordCode());
            if (row == NONE || sorts.at(row) != PLAYER) {
                fail(NOT_TOLD);
            }
            if (fault != 0) {
                return NONE;
            }
            tape.step();
            return numbers.at(row);
        }

        private int rowOf(long code) {
            for (int i = 0; i < nameCount && i < names.length; i++) {
                if (names[i] == code) {
                    return i;
                }
            }
            return NONE;
        }

        private boolean isName() {
            boolean beginsLine = tape.isWord("law") || tape.isWord("snow") || tape.isWord("referee")
                || tape.isWord("block") || tape.isWord("player") || tape.isWord("site")
                || tape.isWord("print") || tape.isWord("at") || tape.isWord("guess");
            boolean isSide = tape.isWord("left") || tape.isWord("right");
            boolean isAct = tape.isWord("flat") || tape.isWord("high") || tape.isWord("rolls")
                || tape.isWord("makes") || tape.isWord("goes") || tape.isWord("ducks");
            return tape.kind == Tape.WORD && !beginsLine && !isSide && !isAct;
        }
    }

    /** What is told. */
    private static final class Match {
        boolean hasLaw;
        int carry;
        int line;
        int tenths;
        int thaws;
        boolean hasReferee;
        int refereeX;
        int sees;
        final Snows snows;
        final Spots players;
        final Spots blocks;
        final Spots sites;
        final Spots prints;
        final Acts acts;
        final Guesses guesses;

        Match() {
            snows = new Snows();
            players = new Spots(Spots.PLAYERS);
            blocks = new Spots(Spots.BLOCKS);
            sites = new Spots(Spots.SITES);
            prints = new Spots(Spots.PRINTS);
            acts = new Acts();
            guesses = new Guesses();
        }

        void clear() {
            hasLaw = false;
            hasReferee = false;
            snows.count = 0;
            players.count = 0;
            blocks.count = 0;
            sites.count = 0;
            prints.count = 0;
            acts.count = 0;
            guesses.count = 0;
        }

        boolean lacksSome() {
            return !hasLaw || snows.count == 0 || players.count == 0;
        }
    }

    /** Players, blocks, sites or prints: each of a SIDE, at a lane and an x; worth is balls, strong or takes. */
    private static final class Spots {
        static final int PLAYERS = 8;
        static final int BLOCKS = 8;
        static final int SITES = 6;
        static final int PRINTS = 6;

        private final int room;
        final Row side;
        final Row lane;
        final Row x;
        final Row worth;
        final Row arm;
        final Row dodge;
        int count;

        Spots(int room) {
            this.room = room;
            side = new Row(room);
            lane = new Row(room);
            x = new Row(room);
            worth = new Row(room);
            arm = new Row(room);
            dodge = new Row(room);
        }

        boolean isFull() {
            return count >= room;
        }

        boolean has(int i) {
            return i >= 0 && i < count;
        }

        void append(int ofSide, int atLane, int atX) {
            side.put(count, ofSide);
            lane.put(count, atLane);
            x.put(count, atX);
            count++;
        }
    }

    /** Snows by hours. */
    private static final class Snows {
        private static final int ROOM = 5;

        final Row hour;
        final Row wet;
        final Row deep;
        int count;

        Snows() {
            hour = new Row(ROOM);
            wet = new Row(ROOM);
            deep = new Row(ROOM);
        }

        boolean isFull() {
            return count >= ROOM;
        }

        void append(int inHour, int howWet, int howDeep) {
            hour.put(count, inHour);
            wet.put(count, howWet);
            deep.put(count, howDeep);
            count++;
        }

        /** The snow that counts in an hour: the latest of it. */
        int rowOf(int h) {
            for (int i = count - 1; i >= 0; i--) {
                if (hour.at(i) == h) {
                    return i;
                }
            }
            return NONE;
        }

        int holdOf(int row) {
            int howWet = wet.at(row);
            if (howWet <= 1) {
                return 0;
            }
            if (howWet <= 3) {
                return 40;
            }
            if (howWet <= 6) {
                return 90;
            }
            return howWet <= 8 ? 70 : 20;
        }

        int bestRow() {
            int best = NONE;
            for (int i = 0; i < count; i++) {
                boolean counts = rowOf(hour.at(i)) == i;
                if (counts && (best == NONE || isBetter(i, best))) {
                    best = i;
                }
            }
            return best;
        }

        private boolean isBetter(int row, int than) {
            if (holdOf(row) != holdOf(than)) {
                return holdOf(row) > holdOf(than);
            }
            if (deep.at(row) != deep.at(than)) {
                return deep.at(row) > deep.at(than);
            }
            return hour.at(row) < hour.at(than);
        }
    }

    /** What is told of tenths. */
    private static final class Acts {
        static final int FLAT = 0;
        static final int HIGH = 1;
        static final int ROLLS = 2;
        static final int MAKES = 3;
        static final int GOES = 4;
        static final int DUCKS = 5;

        private static final int ROOM = 20;

        final Row tenth;
        final Row player;
        final Row kind;
        final Row other;
        int count;

        Acts() {
            tenth = new Row(ROOM);
            player = new Row(ROOM);
            kind = new Row(ROOM);
            other = new Row(ROOM);
        }

        static boolean hasOther(int kind) {
            return kind == FLAT || kind == HIGH || kind == ROLLS;
        }

        boolean isFull() {
            return count >= ROOM;
        }

        void append(int inTenth, int ofPlayer, int ofKind, int atOther) {
            tenth.put(count, inTenth);
            player.put(count, ofPlayer);
            kind.put(count, ofKind);
            other.put(count, atOther);
            count++;
        }
    }

    /** Guesses of what the other lot plans. */
    private static final class Guesses {
        static final int ROOM = 4;

        /** Acts that may be SEEN: flat, high, else. */
        static final int ACTS = 3;

        private static final int TENTHS = 10;

        private final Row weighs;
        private final Row flat;
        private final Row high;
        int count;

        Guesses() {
            weighs = new Row(ROOM);
            flat = new Row(ROOM);
            high = new Row(ROOM);
        }

        boolean isFull() {
            return count >= ROOM;
        }

        boolean has(int i) {
            return i >= 0 && i < count;
        }

        void append(int weight, int flatTenths, int highTenths) {
            weighs.put(count, weight);
            flat.put(count, flatTenths);
            high.put(count, highTenths);
            count++;
        }

        private int tenthsOf(int guess, int act) {
            if (act == 0) {
                return flat.at(guess);
            }
            return act == 1 ? high.at(guess) : TENTHS - flat.at(guess) - high.at(guess);
        }

        /** LIKELY; how often each act was SEEN is enough for it, the order isn't needed. */
        long weightOf(int guess, Row seen) {
            long weight = weighs.at(guess);
            for (int act = 0; act < ACTS; act++) {
                for (int i = 0; i < seen.at(act); i++) {
                    weight *= tenthsOf(guess, act);
                }
            }
            return weight;
        }

        int heaviest(Row seen) {
            int best = 0;
            for (int guess = 1; guess < count; guess++) {
                if (weightOf(guess, seen) > weightOf(best, seen)) {
                    best = guess;
                }
            }
            return best;
        }

        int commonAct(int guess) {
            int best = 0;
            for (int act = 1; act < ACTS; act++) {
                if (tenthsOf(guess, act) > tenthsOf(guess, best)) {
                    best = act;
                }
            }
            return best;
        }
    }

    /** A GAME as it is now, with its SEED and HOUR. */
    private static final class Game {
        static final int SEEDS = 65537;
        static final int SUMS = 5;

        // what is summed
        private static final int THROWN = 0;
        private static final int FELL_TO_BITS = 1;
        private static final int HIT_BLOCKS = 2;
        private static final int HITS = 3;
        private static final int MISSED = 4;

        private static final int LONGEST = 99;
        private static final int FARTHEST_X = 19;
        private static final int THAWING_WET = 7;

        private final Match match;
        final Row x;
        final Row balls;
        final Row thrown;
        final Row out;
        final Row strong;
        final Row sums;
        int passed;
        int seed;
        /** The row of the snow that counts in this HOUR. */
        int snow;
        private int won;
        // of the TENTH that passes: who ducks, at whom flat or high throws are told
        private final Row ducks;
        private final Row flatAt;
        private final Row highAt;

        Game(Match match) {
            this.match = match;
            x = new Row(Spots.PLAYERS);
            balls = new Row(Spots.PLAYERS);
            thrown = new Row(Spots.PLAYERS);
            out = new Row(Spots.PLAYERS);
            strong = new Row(Spots.BLOCKS);
            sums = new Row(SUMS);
            ducks = new Row(Spots.PLAYERS);
            flatAt = new Row(Spots.PLAYERS);
            highAt = new Row(Spots.PLAYERS);
            won = NONE;
        }

        void begin(int withSeed, int withSnow) {
            x.copy(match.players.x);
            balls.copy(match.players.worth);
            thrown.clear();
            out.clear();
            strong.copy(match.blocks.worth);
            sums.clear();
            passed = 0;
            seed = withSeed;
            snow = withSnow;
            won = NONE;
        }

        void copy(Game from) {
            x.copy(from.x);
            balls.copy(from.balls);
            thrown.copy(from.thrown);
            out.copy(from.out);
            strong.copy(from.strong);
            sums.copy(from.sums);
            passed = from.passed;
            seed = from.seed;
            snow = from.snow;
            won = from.won;
        }

        boolean isOver() {
            // it is OVER behind a TENTH: a SIDE that is told nobody has one TENTH all the same
            return passed > 0
                && (won != NONE || leftOf(LEFT) == 0 || leftOf(RIGHT) == 0 || passed >= match.tenths);
        }

        int leftOf(int side) {
            int many = 0;
            for (int p = 0; p < match.players.count; p++) {
                if (match.players.side.at(p) == side && out.at(p) == 0) {
                    many++;
                }
            }
            return many;
        }

        /** WINNER, when it is OVER. */
        int winnerNow() {
            if (won != NONE) {
                return won;
            }
            int ofLeft = leftOf(LEFT);
            int ofRight = leftOf(RIGHT);
            if (ofLeft == ofRight) {
                return NEITHER;
            }
            return ofLeft > ofRight ? LEFT : RIGHT;
        }

        int playOut() {
            int many = 0;
            while (many < LONGEST && !isOver()) {
                passTenth();
                many++;
            }
            return many;
        }

        void passTenth() {
            getReady();
            Acts acts = match.acts;
            for (int line = 0; line < acts.count; line++) {
                int p = acts.player.at(line);
                if (acts.tenth.at(line) != passed || out.at(p) != 0) {
                    continue;
                }
                switch (acts.kind.at(line)) {
                    case Acts.FLAT:
                        throwBall(p, acts.other.at(line), false);
                        break;
                    case Acts.HIGH:
                        throwBall(p, acts.other.at(line), true);
                        break;
                    case Acts.ROLLS:
                        rollBall(p, acts.other.at(line));
                        break;
                    case Acts.MAKES:
                        makeBall(p);
                        break;
                    case Acts.GOES:
                        moveOn(p);
                        break;
                    default:
                        break;
                }
            }
            if (isThawing(passed)) {
                thaw();
            }
            passed++;
        }

        /** Who ducks and who is PAIRED is settled ahead of all that is done in the TENTH. */
        private void getReady() {
            ducks.clear();
            flatAt.clear();
            highAt.clear();
            Acts acts = match.acts;
            for (int line = 0; line < acts.count; line++) {
                if (acts.tenth.at(line) != passed) {
                    continue;
                }
                int p = acts.player.at(line);
                int other = acts.other.at(line);
                int kind = acts.kind.at(line);
                boolean canThrow = out.at(p) == 0 && balls.at(p) > 0 && !isOneSide(p, other);
                if (kind == Acts.DUCKS) {
                    ducks.put(p, 1);
                } else if (kind == Acts.FLAT && canThrow) {
                    flatAt.put(other, 1);
                } else if (kind == Acts.HIGH && canThrow) {
                    highAt.put(other, 1);
                }
            }
        }

        private boolean isOneSide(int p, int q) {
            return match.players.side.at(p) == match.players.side.at(q);
        }

        private void makeBall(int p) {
            boolean snowHolds = match.snows.holdOf(snow) != 0 && match.snows.deep.at(snow) != 0;
            if (snowHolds && balls.at(p) < match.carry) {
                balls.add(p, 1);
            }
        }

        private void rollBall(int p, int other) {
            boolean toMate = p != other && isOneSide(p, other) && out.at(other) == 0;
            if (toMate && balls.at(p) > 0 && balls.at(other) < match.carry) {
                balls.add(p, -1);
                balls.add(other, 1);
            }
        }

        private void moveOn(int p) {
            boolean ofLeft = match.players.side.at(p) == LEFT;
            int farthest = 2 * passed < match.tenths ? match.line : FARTHEST_X;
            int to = x.at(p) + (ofLeft ? 1 : -1);
            int gone = ofLeft ? to : FARTHEST_X - to;
            if (gone > farthest) {
                return;
            }
            x.put(p, to);
            if (gone == FARTHEST_X && won == NONE) {
                won = ofLeft ? LEFT : RIGHT;
            }
        }

        private void throwBall(int p, int q, boolean high) {
            if (balls.at(p) == 0 || isOneSide(p, q) || out.at(q) != 0) {
                return;
            }
            boolean paired = flatAt.at(q) != 0 && highAt.at(q) != 0;
            boolean ducked = ducks.at(q) != 0;
            int chance = chanceOf(p, q, high, paired ? 0 : match.players.dodge.at(q), ducked);
            balls.add(p, -1);
            thrown.add(p, 1);
            sums.add(THROWN, 1);
            // HOLD is below 100 of each wet, so there is always a draw
            if (drawHundred() >= match.snows.holdOf(snow)) {
                sums.add(FELL_TO_BITS, 1);
                return;
            }
            int block = high ? NONE : nearest(match.blocks, strong, p, q);
            if (block != NONE) {
                strong.add(block, -1);
                sums.add(HIT_BLOCKS, 1);
                return;
            }
            if (!high && ducked) {
                return;
            }
            if (chance > 0 && drawHundred() < chance) {
                hit(q);
            }
        }

        private void hit(int q) {
            sums.add(HITS, 1);
            int seen = 100;
            if (match.hasReferee) {
                seen = Math.max(0, 100 - match.sees * Math.abs(x.at(q) - match.refereeX));
            }
            if (seen == 100 || drawHundred() < seen) {
                out.put(q, 1);
            } else {
                sums.add(MISSED, 1);
            }
        }

        private int drawHundred() {
            seed = (75 * seed + 74) % SEEDS;
            return seed % 100;
        }

        int chanceOf(int p, int q, boolean high, int dodge, boolean ducked) {
            Spots players = match.players;
            int far = Math.abs(players.lane.at(p) - players.lane.at(q)) + Math.abs(x.at(p) - x.at(q));
            int arm = players.arm.at(p);
            int often = thrown.at(p);
            int hundredths = high
                ? 70 - 3 * far + 4 * arm - 4 * dodge - 2 * often + (ducked ? 15 : 0)
                : 95 - 4 * far + 5 * arm - 6 * dodge - 3 * often;
            return Math.max(0, Math.min(100, hundredths));
        }

        /** Of the walls whose strength isn't 0 the one that hides q from p: nearest to q; NONE if none does. */
        int nearest(Spots walls, Row strength, int p, int q) {
            int lane = match.players.lane.at(q);
            int from = x.at(q);
            int low = Math.min(x.at(p), from);
            int high = Math.max(x.at(p), from);
            int best = NONE;
            int bestFar = FARTHEST_X + 1;
            for (int w = 0; w < walls.count; w++) {
                int at = walls.x.at(w);
                boolean between = walls.lane.at(w) == lane && at > low && at < high;
                if (between && strength.at(w) > 0 && Math.abs(at - from) < bestFar) {
                    best = w;
                    bestFar = Math.abs(at - from);
                }
            }
            return best;
        }

        /** Whether it thaws behind TENTH t. */
        private boolean isThawing(int t) {
            return match.thaws > 0 && (t + 1) % match.thaws == 0 && match.snows.wet.at(snow) >= THAWING_WET;
        }

        private void thaw() {
            for (int b = 0; b < match.blocks.count; b++) {
                strong.put(b, Math.max(0, strong.at(b) - thawOf(b)));
            }
        }

        private int thawOf(int b) {
            Spots players = match.players;
            int side = match.blocks.side.at(b);
            int behind = match.blocks.x.at(b) + (side == LEFT ? -1 : 1);
            for (int p = 0; p < players.count; p++) {
                boolean leans = players.lane.at(p) == match.blocks.lane.at(b) && x.at(p) == behind;
                if (leans && players.side.at(p) == side && out.at(p) == 0) {
                    return 2;
                }
            }
            return 1;
        }

        int strengthBehind(int b, int tenthsMore) {
            int strength = strong.at(b);
            int less = thawOf(b);
            for (int i = 0; i < tenthsMore; i++) {
                if (isThawing(passed + i)) {
                    strength = Math.max(0, strength - less);
                }
            }
            return strength;
        }

        int fallsBehind(int b, int tenthsAtMost) {
            int strength = strong.at(b);
            int less = thawOf(b);
            for (int i = 0; i <= tenthsAtMost; i++) {
                if (strength <= 0) {
                    return i;
                }
                if (isThawing(passed + i)) {
                    strength -= less;
                }
            }
            return NEVER;
        }

        int rollsNeeded(int side, int n) {
            int lacking = 0;
            int spare = 0;
            for (int p = 0; p < match.players.count; p++) {
                if (match.players.side.at(p) == side && out.at(p) == 0) {
                    lacking += Math.max(0, n - balls.at(p));
                    spare += Math.max(0, balls.at(p) - n);
                }
            }
            return spare < lacking ? NEVER : lacking;
        }
    }

    /** What blocks at SITES hide. */
    private static final class Building {
        private final Match match;
        private final Game game;
        private final Row built;

        Building(Match match, Game game) {
            this.match = match;
            this.game = game;
            built = new Row(Spots.SITES);
        }

        int sitesOf(int side) {
            int sites = 0;
            for (int s = 0; s < match.sites.count; s++) {
                if (match.sites.side.at(s) == side) {
                    sites |= 1 << s;
                }
            }
            return sites;
        }

        /** HIDES of SITES of a SIDE; of none of them, what the blocks that stand hide of theirs. */
        int countHidden(int side, int sites) {
            for (int s = 0; s < Spots.SITES; s++) {
                built.put(s, (sites >> s) & 1);
            }
            int players = match.players.count;
            int many = 0;
            for (int p = 0; p < players; p++) {
                for (int q = 0; q < players; q++) {
                    if (isThreat(p, q, side) && isHidden(p, q)) {
                        many++;
                    }
                }
            }
            return many;
        }

        private boolean isThreat(int p, int q, int side) {
            Row sides = match.players.side;
            return sides.at(p) != side && sides.at(q) == side && game.out.at(p) == 0 && game.out.at(q) == 0;
        }

        private boolean isHidden(int p, int q) {
            return game.nearest(match.blocks, game.strong, p, q) != NONE
                || game.nearest(match.sites, built, p, q) != NONE;
        }

        int bestSites(int side, int minutes) {
            int theirs = sitesOf(side);
            int best = 0;
            int bestHidden = countHidden(side, 0);
            int bestMinutes = 0;
            for (int sites = 1; sites <= theirs; sites++) {
                int takes = minutesOf(sites);
                if ((sites & ~theirs) != 0 || takes > minutes) {
                    continue;
                }
                int hidden = countHidden(side, sites);
                if (hidden > bestHidden || hidden == bestHidden && takes < bestMinutes) {
                    best = sites;
                    bestHidden = hidden;
                    bestMinutes = takes;
                }
            }
            return best;
        }

        private int minutesOf(int sites) {
            int minutes = 0;
            for (int s = 0; s < match.sites.count; s++) {
                if (((sites >> s) & 1) != 0) {
                    minutes += match.sites.worth.at(s);
                }
            }
            return minutes;
        }
    }

    /** Whose prints these are. */
    private static final class Trail {
        private static final int SETS = 1 << Spots.PLAYERS;

        private final Match match;
        private final Game game;
        /** By a set of players, as bits: in how many ways the prints so far are theirs. */
        private final Row waysOfSet;

        Trail(Match match, Game game) {
            this.match = match;
            this.game = game;
            waysOfSet = new Row(SETS);
        }

        int countWays(int d) {
            spreadPrints(d, NONE);
            int all = 0;
            for (int set = 0; set < SETS; set++) {
                all += waysOfSet.at(set);
            }
            return all;
        }

        int ownersOf(int print, int d) {
            spreadPrints(d, print);
            int owners = 0;
            for (int p = 0; p < match.players.count; p++) {
                if (mayBeOf(print, p, d) && isLeftFree(p)) {
                    owners |= 1 << p;
                }
            }
            return owners;
        }

        private boolean isLeftFree(int p) {
            for (int set = 0; set < SETS; set++) {
                if (((set >> p) & 1) == 0 && waysOfSet.at(set) > 0) {
                    return true;
                }
            }
            return false;
        }

        /** Fills waysOfSet for all prints but one (or NONE). */
        private void spreadPrints(int d, int butPrint) {
            waysOfSet.clear();
            waysOfSet.put(0, 1);
            for (int print = 0; print < match.prints.count; print++) {
                if (print != butPrint) {
                    spreadPrint(print, d);
                }
            }
        }

        private void spreadPrint(int print, int d) {
            // downwards, since a set passes its ways on to greater ones, which are emptied by then
            for (int set = SETS - 1; set >= 0; set--) {
                int many = waysOfSet.at(set);
                waysOfSet.put(set, 0);
                for (int p = 0; many > 0 && p < match.players.count; p++) {
                    if (((set >> p) & 1) == 0 && mayBeOf(print, p, d)) {
                        waysOfSet.add(set | 1 << p, many);
                    }
                }
            }
        }

        private boolean mayBeOf(int print, int p, int d) {
            Spots players = match.players;
            Spots prints = match.prints;
            int began = players.x.at(p);
            int now = game.x.at(p);
            int at = prints.x.at(print);
            return prints.side.at(print) == players.side.at(p)
                && prints.lane.at(print) == players.lane.at(p)
                && at >= Math.min(began, now) - d
                && at <= Math.max(began, now) + d;
        }
    }
}
