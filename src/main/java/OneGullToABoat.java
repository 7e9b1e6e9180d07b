import java.util.Arrays;
import java.util.NoSuchElementException;

/** Mail brought to sea by gulls that each know but one boat; ../shared/DOC.md has the promises. */
public final class OneGullToABoat {
    public static final int NONE = -1;

    private static final int SIDE = 16;
    private static final int MOST_BOATS = 6;
    private static final int MOST_GULLS = 8;
    private static final int MOST_LETTERS = 10;
    private static final int MOST_HUNGER = 9;
    private static final int MOST_SHOUT = 15;
    private static final int LOOK_ON = 60;
    private static final int LINES_SIGNS = 76;
    private static final int CODE = 11;
    private static final int WORD = 12;
    private static final int KEPT = 2;

    private static final int RESTS = 0;
    private static final int FLIES = 1;
    private static final int DEAD = 2;

    private static final int BASKET = 0;
    private static final int ON_WING = 1;
    private static final int ON_DECK = 2;
    private static final int LOST = 3;

    private final Text text = new Text();
    private final Rule flown = new Rule();
    private final Sea sea = new Sea(flown);
    private final Sea ahead = new Sea(flown);
    private final History history = new History(flown);
    private final Sea[] kept = new Sea[KEPT];
    private final boolean[] isKept = new boolean[KEPT];
    private final Diary diary = new Diary();
    private final Shouts shouts = new Shouts();
    private final Training training = new Training();
    private final Draw draw = new Draw();
    private final Gull scout = new Gull();
    private final int[] word = new int[WORD];
    private final int[] wordDraws = new int[WORD];
    private int wordLength;
    private final int[] told = new int[MOST_GULLS];
    private int toldCount;

    public OneGullToABoat() {
        for (int i = 0; i < KEPT; i++) {
            kept[i] = new Sea(flown);
        }
    }

    // ---- the fleet, the gulls

    public int sign(int v) {
        return text.add(v);
    }

    public boolean end(int n) {
        return text.cut(n);
    }

    public int fleet() {
        text.open(LINES_SIGNS);
        int lines = text.isEmpty() ? 0 : readBoats();
        int fault = text.close();
        if (fault < 0) {
            return fault;
        }
        if (lines > 0) {
            sea.boatCount += lines;
            history.forget();
        }
        return lines;
    }

    public int gulls() {
        text.open(LINES_SIGNS);
        int lines = text.isEmpty() ? 0 : readGulls();
        int fault = text.close();
        if (fault < 0) {
            return fault;
        }
        if (lines > 0) {
            sea.gullCount += lines;
            history.forget();
        }
        return lines;
    }

    public int rule() {
        return flown.read(text);
    }

    public int boat(int boat, int what) throws NoSuchElementException {
        if (!sea.hasBoat(boat)) {
            throw new NoSuchElementException();
        }
        Boat b = sea.boats[boat];
        switch (what) {
            case 0:
                return b.x;
            case 1:
                return b.y;
            case 2:
                return b.dx;
            case 3:
                return b.dy;
            case 4:
                return b.hull;
            case 5:
                return b.chummed;
            case 6:
                return sea.lettersOnDeckOf(boat);
            default:
                throw new NoSuchElementException();
        }
    }

    public int gull(int gull, int what) throws NoSuchElementException {
        if (!sea.hasGull(gull)) {
            throw new NoSuchElementException();
        }
        Gull g = sea.gulls[gull];
        switch (what) {
            case 0:
                return g.boat;
            case 1:
                return g.hull;
            case 2:
                return g.pace;
            case 3:
                return g.hunger;
            case 4:
                return g.x;
            case 5:
                return g.y;
            case 6:
                return g.state;
            case 7:
                return g.letter;
            default:
                throw new NoSuchElementException();
        }
    }

    public int letter(int letter, int what) throws NoSuchElementException {
        if (!sea.hasLetter(letter)) {
            throw new NoSuchElementException();
        }
        Letter l = sea.letters[letter];
        switch (what) {
            case 0:
                return l.boat;
            case 1:
                return l.place;
            case 2:
                return l.holder;
            default:
                throw new NoSuchElementException();
        }
    }

    public int weather(int what, int v) {
        if (what == 0 && v >= 0 && v <= 9) {
            int was = sea.wind;
            sea.wind = v;
            return was;
        }
        if (what == 1 && v >= 0 && v <= 1) {
            int was = sea.storm;
            sea.storm = v;
            return was;
        }
        return NONE;
    }

    public int sheet(int kind, int n, int f, int step) {
        if (kind < 0 || kind > 3 || n > MOST_GULLS) {
            return NONE;
        }
        if (kind == 3) {
            sea.hungerBySheet(kind, 0, f, step);
            return -3;
        }
        return n < 0 ? -2 : sea.hungerBySheet(kind, n, f, step);
    }

    private int readBoats() {
        int lines = 0;
        boolean more = true;
        while (more && lines <= MOST_BOATS) {
            // the slots behind the last boat are free, so a line that fails leaves nothing behind
            int slot = sea.boatCount + lines;
            if (slot < MOST_BOATS) {
                sea.boats[slot].readLine(text);
            } else {
                text.refuse();
            }
            lines++;
            more = text.take(';');
        }
        return lines;
    }

    private int readGulls() {
        int lines = 0;
        boolean more = true;
        while (more && lines <= MOST_GULLS) {
            int slot = sea.gullCount + lines;
            if (slot < MOST_GULLS) {
                readGull(sea.gulls[slot]);
            } else {
                text.refuse();
            }
            lines++;
            more = text.take(';');
        }
        return lines;
    }

    private void readGull(Gull gull) {
        int boat = text.boatLetter(sea.boatCount);
        int pace = text.digit(1, 9);
        if (sea.hasBoat(boat)) {
            gull.hatch(boat, sea.boats[boat].hull, pace);
        }
    }

    // ---- the day

    public int write(int boat) {
        history.mark(sea);
        return held(sea.addLetter(boat));
    }

    public int send(int gull, int letter) {
        history.mark(sea);
        return held(sea.sendOut(gull, letter));
    }

    public int paint(int boat, int hull) {
        history.mark(sea);
        return held(sea.repaint(boat, hull));
    }

    public int show(int gull) {
        history.mark(sea);
        return held(sea.learn(gull));
    }

    public int chum(int boat, int v) {
        history.mark(sea);
        return held(sea.putChum(boat, v));
    }

    public int feed(int gull) {
        history.mark(sea);
        return held(sea.fill(gull));
    }

    public int half() {
        return passAndTell(1);
    }

    public int halves(int n) {
        if (n < 0 || n > 48) {
            return NONE;
        }
        return passAndTell(n);
    }

    public int day() {
        int fault = diary.read(text);
        if (fault < 0) {
            return fault;
        }
        history.mark(sea);
        sea.clearTally();
        int done = 0;
        while (done < diary.size && perform(diary.kinds[done], diary.ones[done], diary.others[done]) >= 0) {
            done++;
        }
        if (done > 0) {
            history.hold();
        }
        tellTwo(done < diary.size ? 1 : 0, sea.arrivals);
        return done;
    }

    public int undo() {
        if (history.size() == 0) {
            return NONE;
        }
        history.back(sea);
        return history.size();
    }

    /** Only what was done can be undone, so only then the mark made ahead of it is held. */
    private int held(int answer) {
        if (answer >= 0) {
            history.hold();
        }
        return answer;
    }

    private int passAndTell(int n) {
        history.mark(sea);
        sea.clearTally();
        sea.pass(n);
        if (n > 0) {
            history.hold();
        }
        tellThree(sea.came, sea.decked, sea.died);
        return sea.arrivals;
    }

    private int perform(int kind, int one, int other) {
        switch (kind) {
            case 'h':
                sea.pass(one);
                return one;
            case 'w':
                return sea.addLetter(one);
            case 's':
                return sea.sendOut(one, other);
            case 'p':
                return sea.repaint(one, other);
            case 'c':
                return sea.turnChum(one);
            case 'f':
                return sea.fill(one);
            case 'o':
                return sea.learn(one);
            default:
                return NONE;
        }
    }

    // ---- half hours to come

    public int where(int boat, int n) {
        if (!sea.hasBoat(boat) || n < 0 || n > LOOK_ON) {
            return NONE;
        }
        lookAhead();
        Boat b = ahead.boats[boat];
        for (int i = 0; i < n; i++) {
            b.sail();
        }
        tellTwo(b.dx, b.dy);
        return cellNumber(b.x, b.y);
    }

    public int comes(int gull) {
        if (!sea.isGull(gull, FLIES)) {
            return NONE;
        }
        lookAhead();
        return arrivalTold(gull);
    }

    public int would(int gull) {
        if (!sea.isGull(gull, RESTS)) {
            return NONE;
        }
        lookAhead();
        ahead.sendOut(gull, NONE);
        return arrivalTold(gull);
    }

    public int delivers(int n) {
        if (n < 0 || n > LOOK_ON) {
            return NONE;
        }
        lookAhead();
        ahead.pass(n);
        int right = 0;
        for (int i = 0; i < ahead.letterCount; i++) {
            if (ahead.letters[i].isHome()) {
                right |= 1 << i;
            }
        }
        tellTwo(ahead.lettersAt(ON_DECK) & ~right, ahead.lettersAt(LOST));
        return right;
    }

    public int due(int boat) {
        if (!sea.hasBoat(boat)) {
            return NONE;
        }
        int missing = 0;
        for (int i = 0; i < sea.letterCount; i++) {
            Letter l = sea.letters[i];
            if (l.boat == boat && !l.isHome()) {
                missing |= 1 << i;
            }
        }
        toldCount = 0;
        for (int place = BASKET; place <= LOST; place++) {
            tellMore(missing & sea.lettersAt(place));
        }
        return missing;
    }

    public int heads(int gull) {
        if (!sea.isGull(gull, FLIES)) {
            return NONE;
        }
        int goal = sea.goalOf(sea.gulls[gull]);
        int far = sea.farFrom(sea.gulls[gull], goal);
        tellTwo(goal, Math.min(far, sea.reach(gull, far)));
        return far;
    }

    public int nearest(int one, int other) {
        if (!sea.hasBoat(one) || !sea.hasBoat(other) || one == other) {
            return NONE;
        }
        lookAhead();
        Boat a = ahead.boats[one];
        Boat b = ahead.boats[other];
        int when = 0;
        int least = apart(a.x, a.y, b.x, b.y);
        for (int t = 1; t <= LOOK_ON; t++) {
            a.sail();
            b.sail();
            int far = apart(a.x, a.y, b.x, b.y);
            if (far < least) {
                least = far;
                when = t;
            }
        }
        tellOne(least);
        return when;
    }

    /** Weather stays as it is in all that is asked of half hours to come. */
    private void lookAhead() {
        ahead.copyFrom(sea);
        ahead.wind = sea.wind;
        ahead.storm = sea.storm;
        ahead.clearTally();
    }

    private int arrivalTold(int gull) {
        int when = ahead.flyToDeck(gull);
        if (when == NONE) {
            return -2;
        }
        tellOne(ahead.landing);
        return when;
    }

    // ---- orders

    public int shouted(int those, int shout, int n) {
        if (!areBoats(those) || !isShout(shout) || n < 0 || n > LOOK_ON) {
            return NONE;
        }
        watchFleet(shout);
        shouts.spread(those, 0);
        int know = 0;
        toldCount = 0;
        for (int b = 0; b < sea.boatCount; b++) {
            int when = shouts.when[b];
            boolean knows = when != NONE && when <= n;
            if (knows) {
                know |= 1 << b;
            }
            tellMore(knows ? when : NONE);
        }
        return know;
    }

    public int spreads(int those, int shout) {
        if (!areBoats(those) || those == 0 || !isShout(shout)) {
            return NONE;
        }
        watchFleet(shout);
        shouts.spread(those, 0);
        int when = shouts.allKnow();
        return when == NONE ? -2 : when;
    }

    public int teller(int shout) {
        if (!isShout(shout)) {
            return NONE;
        }
        watchFleet(shout);
        int best = NONE;
        int soonest = LOOK_ON + 1;
        for (int b = 0; b < sea.boatCount; b++) {
            shouts.spread(1 << b, 0);
            int when = shouts.allKnow();
            if (when != NONE && when < soonest) {
                soonest = when;
                best = b;
            }
        }
        if (best == NONE) {
            return -2;
        }
        tellOne(soonest);
        return best;
    }

    public int order(int shout, int n) {
        if (!isShout(shout) || n < 1 || n > LOOK_ON) {
            return NONE;
        }
        watchFleet(shout);
        int usable = tellByGulls(n);
        int best = NONE;
        int soonest = NONE;
        for (int set = 0; set < 1 << sea.gullCount; set++) {
            boolean fewer = best == NONE || Integer.bitCount(set) < Integer.bitCount(best);
            if ((set & ~usable) == 0 && fewer) {
                int when = shouts.allKnowBy(set);
                if (when != NONE && when <= n) {
                    best = set;
                    soonest = when;
                }
            }
        }
        if (best == NONE) {
            return -2;
        }
        tellTwo(best, soonest);
        return Integer.bitCount(best);
    }

    private boolean isShout(int shout) {
        return shout >= 0 && shout <= MOST_SHOUT;
    }

    private boolean areBoats(int those) {
        return those >= 0 && those < 1 << sea.boatCount;
    }

    private void watchFleet(int shout) {
        lookAhead();
        shouts.watch(ahead, shout);
    }

    /** The gulls (bits) that come to a boat in n half hours, with what each alone makes known. */
    private int tellByGulls(int n) {
        int usable = 0;
        for (int g = 0; g < sea.gullCount; g++) {
            if (sea.isGull(g, RESTS)) {
                lookAhead();
                ahead.sendOut(g, NONE);
                int when = ahead.flyToDeck(g);
                if (when != NONE && when <= n) {
                    shouts.spread(1 << ahead.landing, when);
                    shouts.keepFor(g);
                    usable |= 1 << g;
                }
            }
        }
        return usable;
    }

    // ---- thieves

    public int thief(int n) {
        if (n < 1 || n > LOOK_ON) {
            return NONE;
        }
        if (sea.boatCount == 0) {
            return -2;
        }
        int best = 0;
        int most = NONE;
        for (int b = 0; b < sea.boatCount; b++) {
            lookAhead();
            ahead.chumAloneBy(b);
            ahead.pass(n);
            int stolen = newOnWrongDecks(b);
            if (stolen > most) {
                most = stolen;
                best = b;
            }
        }
        lookAhead();
        ahead.pass(n);
        tellTwo(most, newOnWrongDecks(NONE));
        return best;
    }

    public int astray() {
        int wrong = 0;
        int ashore = 0;
        for (int g = 0; g < sea.gullCount; g++) {
            if (sea.isGull(g, FLIES)) {
                int goal = sea.goalOf(sea.gulls[g]);
                if (goal == NONE) {
                    ashore |= 1 << g;
                } else if (goal != sea.gulls[g].boat) {
                    wrong |= 1 << g;
                }
            }
        }
        tellOne(ashore);
        return wrong;
    }

    /** Letters that came ahead on the deck of a boat (NONE: of any) that they are not for. */
    private int newOnWrongDecks(int boat) {
        int n = 0;
        for (int i = 0; i < ahead.letterCount; i++) {
            Letter l = ahead.letters[i];
            boolean came = l.place == ON_DECK && sea.letters[i].place != ON_DECK;
            if (came && !l.isHome() && (boat == NONE || l.holder == boat)) {
                n++;
            }
        }
        return n;
    }

    // ---- where boats were

    public int fits(int gull, int n) {
        if (!sea.hasGull(gull) || n < 1 || n > LOOK_ON) {
            return NONE;
        }
        int cells = 0;
        int least = NONE;
        int greatest = NONE;
        for (int cell = 0; cell < SIDE * SIDE; cell++) {
            if (metJustNow(sea.gulls[gull], cell, n)) {
                cells++;
                greatest = cell;
                if (least == NONE) {
                    least = cell;
                }
            }
        }
        tellTwo(least, greatest);
        return cells;
    }

    public int ring(int d) {
        if (d < 0 || d > 2 * (SIDE - 1)) {
            return NONE;
        }
        int on = 0;
        for (int b = 0; b < sea.boatCount; b++) {
            if (sea.boats[b].x + sea.boats[b].y == d) {
                on |= 1 << b;
            }
        }
        tellOne(on);
        return d < SIDE ? d + 1 : 2 * SIDE - 1 - d;
    }

    private boolean metJustNow(Gull gull, int cell, int n) {
        Boat boat = sea.boats[gull.boat];
        int x = cell % SIDE - n * boat.dx;
        int y = cell / SIDE - n * boat.dy;
        if (!isAtSea(x) || !isAtSea(y)) {
            return false;
        }
        scout.x = 0;
        scout.y = 0;
        for (int t = 1; t <= n; t++) {
            x += boat.dx;
            y += boat.dy;
            scout.flyTowards(x, y, gull.pace);
            if (scout.x == x && scout.y == y) {
                return t == n;
            }
        }
        return false;
    }

    // ---- next year

    public int lonely() {
        if (sea.boatCount == 0) {
            return -2;
        }
        int best = 0;
        toldCount = 0;
        for (int b = 0; b < sea.boatCount; b++) {
            tellMore(sea.livingGullsOf(b));
            if (told[b] < told[best]) {
                best = b;
            }
        }
        return best;
    }

    public int train(int n, int p) {
        if (n < 1 || n > MOST_GULLS || p < 0 || p > 10 || sea.boatCount == 0) {
            return NONE;
        }
        training.find(sea.boatCount, n, p);
        toldCount = 0;
        for (int b = 0; b < sea.boatCount; b++) {
            tellMore(training.best[b]);
        }
        return training.chance;
    }

    // ---- codes

    public int codes(int seed) {
        text.open(WORD);
        int digits = 0;
        do {
            text.digit(0, 9);
            digits++;
        } while (digits < WORD && !text.isAtEnd());
        int fault = text.faultSoFar();
        if (fault == 0) {
            wordLength = digits;
            draw.start(seed);
            for (int i = 0; i < digits; i++) {
                word[i] = text.signAt(i) - '0';
                wordDraws[i] = draw.next(CODE);
            }
        }
        text.close();
        return fault < 0 ? fault : digits;
    }

    public int slip(int j, int i) {
        // without a word all slips and digits are alike, so this goes ahead of what is wrong with j or i
        if (wordLength == 0) {
            return -2;
        }
        if (j < 1 || j > 3 || i < 0 || i >= wordLength || i >= WORD) {
            return NONE;
        }
        return (word[i] + j * wordDraws[i]) % CODE;
    }

    public int opens(int a, int u, int b, int v) {
        if (!isSlip(a, u) || !isSlip(b, v) || a == b) {
            return NONE;
        }
        // two slips fix the draw, for 11 is prime and a - b is not a multiple of it
        for (int d = 0; d < CODE; d++) {
            int digit = Math.floorMod(u - a * d, CODE);
            if ((digit + b * d) % CODE == v) {
                if (digit > 9) {
                    return -2;
                }
                tellOne(d);
                return digit;
            }
        }
        return NONE;
    }

    private boolean isSlip(int j, int u) {
        return j >= 1 && j <= 3 && u >= 0 && u < CODE;
    }

    // ---- seasons

    public int season(int seed, int n, int p) {
        if (n < 1 || n > LOOK_ON || p < 1 || p > 10) {
            return NONE;
        }
        lookAhead();
        draw.start(seed);
        for (int i = 0; i < n; i++) {
            ahead.wind = draw.next(10);
            ahead.storm = draw.next(p) == 0 ? 1 : 0;
            // a gull that is not there or does not rest is refused, and nothing is sent
            ahead.sendOut(draw.next(8), NONE);
            ahead.pass(1);
        }
        tellTwo(Integer.bitCount(ahead.died), ahead.lettersAt(ON_DECK));
        return ahead.arrivals;
    }

    // ---- kept

    public boolean keep(int i) {
        if (i < 0 || i >= KEPT) {
            return false;
        }
        kept[i].copyFrom(sea);
        isKept[i] = true;
        return true;
    }

    public boolean again(int i) {
        if (i < 0 || i >= KEPT || !isKept[i]) {
            return false;
        }
        // boats and gulls never become fewer, so like numbers mean that none came since
        if (kept[i].boatCount != sea.boatCount || kept[i].gullCount != sea.gullCount) {
            return false;
        }
        sea.copyFrom(kept[i]);
        history.forget();
        return true;
    }

    public int count(int what) {
        switch (what) {
            case 0:
                return sea.boatCount;
            case 1:
                return sea.gullCount;
            case 2:
                return sea.letterCount;
            case 3:
                return sea.now;
            case 4:
                return sea.wind;
            case 5:
                return sea.storm;
            case 6:
                return sea.gullsThat(FLIES);
            case 7:
                return sea.gullsThat(DEAD);
            case 8:
                return sea.lettersAt(BASKET);
            case 9:
                return sea.lettersAt(LOST);
            case 10:
                return history.size();
            case 11:
                return toldCount;
            case 12:
                return text.length();
            default:
                return NONE;
        }
    }

    public int row(int i) throws NoSuchElementException {
        if (i < 0 || i >= toldCount || i >= MOST_GULLS) {
            throw new NoSuchElementException();
        }
        return told[i];
    }

    private void tellMore(int number) {
        if (toldCount < told.length) {
            told[toldCount] = number;
            toldCount++;
        }
    }

    private void tellOne(int a) {
        toldCount = 0;
        tellMore(a);
    }

    private void tellTwo(int a, int b) {
        tellOne(a);
        tellMore(b);
    }

    private void tellThree(int a, int b, int c) {
        tellTwo(a, b);
        tellMore(c);
    }

    private static int apart(int x, int y, int otherX, int otherY) {
        return Math.abs(x - otherX) + Math.abs(y - otherY);
    }

    private static boolean isAtSea(int part) {
        return part >= 0 && part < SIDE;
    }

    private static int cellNumber(int x, int y) {
        return SIDE * y + x;
    }

    /** THE TEXT, and a reader on it that remembers the first sign that can't stand where it is. */
    private static final class Text {
        private final char[] signs = new char[80];
        private int length;
        private int limit;
        private int at;
        private int bad = NONE;

        int length() {
            return length;
        }

        boolean isEmpty() {
            return length == 0;
        }

        int add(int v) {
            if (length + 4 > signs.length) {
                return NONE;
            }
            for (int shift = 24; shift >= 0; shift -= 8) {
                signs[length] = (char) (v >>> shift & 255);
                length++;
            }
            return length;
        }

        boolean cut(int n) {
            if (n < 0 || n > length) {
                return false;
            }
            length = n;
            return true;
        }

        void open(int mostSigns) {
            limit = Math.min(length, mostSigns);
            at = 0;
            bad = NONE;
        }

        /** NONE at the end, and behind a fault, so that every reading comes to its end there. */
        int peek() {
            return bad == NONE && at < limit && at < signs.length ? signs[at] : NONE;
        }

        int signAt(int i) {
            return i >= 0 && i < length ? signs[i] : NONE;
        }

        boolean isAtEnd() {
            return bad != NONE || at >= length;
        }

        void skip() {
            at++;
        }

        boolean take(char sign) {
            if (peek() != sign) {
                return false;
            }
            at++;
            return true;
        }

        void need(char sign) {
            if (!take(sign)) {
                refuse();
            }
        }

        void refuse() {
            if (bad == NONE) {
                bad = at;
            }
        }

        boolean isDigit(int least, int most) {
            int v = peek() - '0';
            return v >= least && v <= most;
        }

        int digit(int least, int most) {
            if (!isDigit(least, most)) {
                refuse();
                return least;
            }
            int v = peek() - '0';
            at++;
            return v;
        }

        int coordinate() {
            int v = digit(0, 9);
            if (!isDigit(0, 9)) {
                return v;
            }
            v = 10 * v + peek() - '0';
            if (v >= SIDE) {
                refuse();
                return 0;
            }
            at++;
            return v;
        }

        int boatLetter(int letters) {
            int v = peek() - 'a';
            if (v < 0 || v >= letters) {
                refuse();
                return NONE;
            }
            at++;
            return v;
        }

        /** 0, or -1 - p of the first sign that can't stand there, if reading is over now. */
        int faultSoFar() {
            if (at < length) {
                refuse();
            }
            return bad == NONE ? 0 : -1 - bad;
        }

        int close() {
            int fault = faultSoFar();
            length = 0;
            return fault;
        }
    }

    /** THE RULE, kept as numbers, things and signs in the order in which they are reckoned. */
    private static final class Rule {
        private static final int SIGNS = 40;
        private static final int DEEPEST = 4;
        private static final int MOST = 30;
        private static final String THINGS = "phdwsgl";
        private static final int THING = 1000;
        private static final int TURN = 2000;

        private final int[] steps = new int[SIGNS];
        private int size;
        private final int[] draft = new int[SIGNS];
        private int draftSize;
        private final int[] stack = new int[SIGNS];

        int read(Text text) {
            draftSize = 0;
            text.open(SIGNS);
            if (!text.isEmpty()) {
                readComparison(text, 0);
            }
            int fault = text.close();
            if (fault == 0) {
                System.arraycopy(draft, 0, steps, 0, draftSize);
                size = draftSize;
            }
            return fault;
        }

        private void readComparison(Text text, int depth) {
            readSum(text, depth);
            int sign = text.peek();
            if (sign == '<' || sign == '>' || sign == '=') {
                text.skip();
                readSum(text, depth);
                put(-sign);
            }
        }

        private void readSum(Text text, int depth) {
            readProduct(text, depth);
            int sign = text.peek();
            for (int i = 0; i < SIGNS && (sign == '+' || sign == '-'); i++) {
                text.skip();
                readProduct(text, depth);
                put(-sign);
                sign = text.peek();
            }
        }

        private void readProduct(Text text, int depth) {
            readFactor(text, depth);
            int sign = text.peek();
            for (int i = 0; i < SIGNS && (sign == '*' || sign == '/'); i++) {
                text.skip();
                readFactor(text, depth);
                put(-sign);
                sign = text.peek();
            }
        }

        private void readFactor(Text text, int depth) {
            int turns = 0;
            while (turns < SIGNS && text.take('-')) {
                turns++;
            }
            readThing(text, depth);
            for (int i = 0; i < turns; i++) {
                put(TURN);
            }
        }

        private void readThing(Text text, int depth) {
            int sign = text.peek();
            if (text.isDigit(0, 9)) {
                int v = text.digit(0, 9);
                for (int i = 1; i < 3 && text.isDigit(0, 9); i++) {
                    v = 10 * v + text.digit(0, 9);
                }
                put(v);
            } else if (sign == '(' && depth < DEEPEST) {
                text.skip();
                readComparison(text, depth + 1);
                text.need(')');
            } else if (sign != NONE && THINGS.indexOf((char) sign) >= 0) {
                text.skip();
                put(THING + THINGS.indexOf((char) sign));
            } else {
                text.refuse();
            }
        }

        private void put(int step) {
            if (draftSize < SIGNS) {
                draft[draftSize] = step;
                draftSize++;
            }
        }

        /** How many cells at most; things are p h d w s g l. */
        int reckon(int[] things) {
            int result = size == 0 ? things[0] - (things[1] < 1 ? 1 : 0) : run(things);
            return Math.max(0, Math.min(MOST, result));
        }

        private int run(int[] things) {
            int top = 0;
            for (int i = 0; i < size; i++) {
                int step = steps[i];
                if (step == TURN && top > 0) {
                    stack[top - 1] = -stack[top - 1];
                } else if (step < 0 && top > 1) {
                    top--;
                    stack[top - 1] = join(-step, stack[top - 1], stack[top]);
                } else if (step >= 0 && step < TURN && top < SIGNS) {
                    int thing = step - THING;
                    stack[top] = thing >= 0 && thing < things.length ? things[thing] : step;
                    top++;
                }
            }
            return stack[0];
        }

        private static int join(int sign, int a, int b) {
            switch (sign) {
                case '<':
                    return a < b ? 1 : 0;
                case '>':
                    return a > b ? 1 : 0;
                case '=':
                    return a == b ? 1 : 0;
                case '+':
                    return a + b;
                case '-':
                    return a - b;
                case '*':
                    return a * b;
                default:
                    return b == 0 ? 0 : a / b;
            }
        }
    }

    private static final class Boat {
        int x;
        int y;
        int dx;
        int dy;
        int hull;
        int chummed;

        void copyFrom(Boat other) {
            x = other.x;
            y = other.y;
            dx = other.dx;
            dy = other.dy;
            hull = other.hull;
            chummed = other.chummed;
        }

        void readLine(Text text) {
            x = text.coordinate();
            text.need(',');
            y = text.coordinate();
            readCourse(text);
            hull = text.digit(0, 5);
            chummed = 0;
        }

        private void readCourse(Text text) {
            dx = 0;
            dy = 0;
            if (text.take('-')) {
                return;
            }
            if (text.take('n')) {
                dy = -1;
            } else if (text.take('s')) {
                dy = 1;
            }
            if (text.take('e')) {
                dx = 1;
            } else if (text.take('w')) {
                dx = -1;
            }
            if (dx == 0 && dy == 0) {
                text.refuse();
            }
        }

        void sail() {
            if (isAtSea(x + dx)) {
                x += dx;
            } else {
                dx = -dx;
            }
            if (isAtSea(y + dy)) {
                y += dy;
            } else {
                dy = -dy;
            }
        }
    }

    private static final class Gull {
        int boat;
        int hull;
        int pace;
        int hunger;
        int x;
        int y;
        int state;
        int letter = NONE;

        void copyFrom(Gull other) {
            boat = other.boat;
            hull = other.hull;
            pace = other.pace;
            hunger = other.hunger;
            x = other.x;
            y = other.y;
            state = other.state;
            letter = other.letter;
        }

        void hatch(int ownBoat, int itsHull, int itsPace) {
            boat = ownBoat;
            hull = itsHull;
            pace = itsPace;
            hunger = 0;
            restAshore();
        }

        void restAshore() {
            x = 0;
            y = 0;
            state = RESTS;
            letter = NONE;
        }

        /** First by x, then by y. */
        void flyTowards(int toX, int toY, int cells) {
            int along = Math.min(cells, Math.abs(toX - x));
            x += toX < x ? -along : along;
            int left = Math.min(cells - along, Math.abs(toY - y));
            y += toY < y ? -left : left;
        }
    }

    private static final class Letter {
        int boat;
        int place;
        int holder = NONE;

        void copyFrom(Letter other) {
            boat = other.boat;
            place = other.place;
            holder = other.holder;
        }

        void put(int where, int who) {
            place = where;
            holder = who;
        }

        boolean isHome() {
            return place == ON_DECK && holder == boat;
        }
    }

    /** Boats, gulls, letters and NOW, with the weather over them and a tally of what half hours bring. */
    private static final class Sea {
        private static final int CHUM_CALLS = 4;
        private static final int CHUM_HUNGER = 6;
        private static final int ANYWHERE = 2 * SIDE;

        final Boat[] boats = new Boat[MOST_BOATS];
        final Gull[] gulls = new Gull[MOST_GULLS];
        final Letter[] letters = new Letter[MOST_LETTERS];
        int boatCount;
        int gullCount;
        int letterCount;
        int now;
        int wind;
        int storm;
        int arrivals;
        int came;
        int decked;
        int died;
        int landing = NONE;
        private final Rule rule;
        private final int[] things = new int[7];

        Sea(Rule itsRule) {
            rule = itsRule;
            for (int i = 0; i < MOST_BOATS; i++) {
                boats[i] = new Boat();
            }
            for (int i = 0; i < MOST_GULLS; i++) {
                gulls[i] = new Gull();
            }
            for (int i = 0; i < MOST_LETTERS; i++) {
                letters[i] = new Letter();
            }
        }

        /** Not the weather: neither undo() nor again() brings that back. */
        void copyFrom(Sea other) {
            boatCount = other.boatCount;
            gullCount = other.gullCount;
            letterCount = other.letterCount;
            now = other.now;
            for (int i = 0; i < boatCount; i++) {
                boats[i].copyFrom(other.boats[i]);
            }
            for (int i = 0; i < gullCount; i++) {
                gulls[i].copyFrom(other.gulls[i]);
            }
            for (int i = 0; i < letterCount; i++) {
                letters[i].copyFrom(other.letters[i]);
            }
        }

        void clearTally() {
            arrivals = 0;
            came = 0;
            decked = 0;
            died = 0;
        }

        boolean hasBoat(int b) {
            return b >= 0 && b < boatCount && b < MOST_BOATS;
        }

        boolean hasGull(int g) {
            return g >= 0 && g < gullCount && g < MOST_GULLS;
        }

        boolean hasLetter(int l) {
            return l >= 0 && l < letterCount && l < MOST_LETTERS;
        }

        boolean isGull(int g, int state) {
            return hasGull(g) && gulls[g].state == state;
        }

        int gullsThat(int state) {
            int set = 0;
            for (int g = 0; g < gullCount; g++) {
                if (gulls[g].state == state) {
                    set |= 1 << g;
                }
            }
            return set;
        }

        int livingGullsOf(int boat) {
            int n = 0;
            for (int g = 0; g < gullCount; g++) {
                if (gulls[g].boat == boat && gulls[g].state != DEAD) {
                    n++;
                }
            }
            return n;
        }

        int lettersAt(int place) {
            int set = 0;
            for (int i = 0; i < letterCount; i++) {
                if (letters[i].place == place) {
                    set |= 1 << i;
                }
            }
            return set;
        }

        int lettersOnDeckOf(int boat) {
            int set = 0;
            for (int i = 0; i < letterCount; i++) {
                if (letters[i].place == ON_DECK && letters[i].holder == boat) {
                    set |= 1 << i;
                }
            }
            return set;
        }

        int hungerBySheet(int kind, int n, int f, int step) {
            int sum = 0;
            for (int g = 0; g < gullCount; g++) {
                Gull gull = gulls[g];
                if (gull.state != DEAD) {
                    int entry = g < n ? narrowed(kind, f + g * step) : 0;
                    gull.hunger = Math.max(0, Math.min(MOST_HUNGER, entry));
                    sum += gull.hunger;
                }
            }
            return sum;
        }

        private static int narrowed(int kind, int v) {
            if (kind == 0) {
                return (byte) v;
            }
            return kind == 1 ? (short) v : v;
        }

        int addLetter(int boat) {
            if (!hasBoat(boat)) {
                return NONE;
            }
            if (letterCount >= MOST_LETTERS) {
                return -2;
            }
            Letter letter = letters[letterCount];
            letter.boat = boat;
            letter.put(BASKET, NONE);
            letterCount++;
            return letterCount - 1;
        }

        int sendOut(int g, int l) {
            if (!hasGull(g)) {
                return NONE;
            }
            Gull gull = gulls[g];
            if (gull.state != RESTS) {
                return -2;
            }
            if (l != NONE) {
                if (!hasLetter(l) || letters[l].place != BASKET) {
                    return -3;
                }
                letters[l].put(ON_WING, g);
            }
            gull.letter = l;
            gull.state = FLIES;
            return farFrom(gull, gull.boat);
        }

        int repaint(int boat, int hull) {
            if (!hasBoat(boat) || hull < 0 || hull > 5) {
                return NONE;
            }
            int was = boats[boat].hull;
            boats[boat].hull = hull;
            return was;
        }

        int learn(int g) {
            if (!hasGull(g)) {
                return NONE;
            }
            if (gulls[g].state != RESTS) {
                return -2;
            }
            gulls[g].hull = boats[gulls[g].boat].hull;
            return gulls[g].hull;
        }

        int putChum(int boat, int v) {
            if (!hasBoat(boat) || v < 0 || v > 1) {
                return NONE;
            }
            int was = boats[boat].chummed;
            boats[boat].chummed = v;
            return was;
        }

        int turnChum(int boat) {
            return hasBoat(boat) ? putChum(boat, 1 - boats[boat].chummed) : NONE;
        }

        void chumAloneBy(int boat) {
            for (int b = 0; b < boatCount; b++) {
                boats[b].chummed = b == boat ? 1 : 0;
            }
        }

        int fill(int g) {
            if (!hasGull(g)) {
                return NONE;
            }
            if (gulls[g].state != RESTS) {
                return -2;
            }
            int was = gulls[g].hunger;
            gulls[g].hunger = 0;
            return was;
        }

        void pass(int halfHours) {
            for (int i = 0; i < halfHours; i++) {
                sailAll();
                for (int g = 0; g < gullCount; g++) {
                    if (gulls[g].state == FLIES) {
                        fly(g);
                    }
                }
                now++;
            }
        }

        /** In how many half hours a gull comes to a boat (landing), or NONE; no gull hinders another. */
        int flyToDeck(int g) {
            landing = NONE;
            for (int t = 1; t <= LOOK_ON && isGull(g, FLIES); t++) {
                sailAll();
                fly(g);
                now++;
                if (landing != NONE) {
                    return t;
                }
            }
            return NONE;
        }

        void sailAll() {
            for (int b = 0; b < boatCount; b++) {
                boats[b].sail();
            }
        }

        /** The boat to which a gull goes, NONE if ashore. */
        int goalOf(Gull gull) {
            if (storm == 1) {
                return nearestBoat(gull, ANYWHERE, false);
            }
            if (gull.hunger >= CHUM_HUNGER) {
                int calling = nearestBoat(gull, CHUM_CALLS, true);
                if (calling != NONE) {
                    return calling;
                }
            }
            return boats[gull.boat].hull == gull.hull ? gull.boat : NONE;
        }

        private int nearestBoat(Gull gull, int within, boolean withChum) {
            int best = NONE;
            int least = within + 1;
            for (int b = 0; b < boatCount; b++) {
                int far = farFrom(gull, b);
                if (far < least && (!withChum || boats[b].chummed == 1)) {
                    least = far;
                    best = b;
                }
            }
            return best;
        }

        int farFrom(Gull gull, int goal) {
            int toX = goal == NONE ? 0 : boats[goal].x;
            int toY = goal == NONE ? 0 : boats[goal].y;
            return Math.abs(toX - gull.x) + Math.abs(toY - gull.y);
        }

        int reach(int g, int far) {
            Gull gull = gulls[g];
            things[0] = gull.pace;
            things[1] = gull.hunger;
            things[2] = far;
            things[3] = wind;
            things[4] = now;
            things[5] = g;
            things[6] = gull.letter == NONE ? 0 : 1;
            return rule.reckon(things);
        }

        private void fly(int g) {
            Gull gull = gulls[g];
            int goal = goalOf(gull);
            int toX = goal == NONE ? 0 : boats[goal].x;
            int toY = goal == NONE ? 0 : boats[goal].y;
            gull.flyTowards(toX, toY, reach(g, farFrom(gull, goal)));
            if (gull.x != toX || gull.y != toY) {
                starve(g);
            } else if (goal == NONE) {
                putLetter(gull, BASKET, NONE);
                gull.restAshore();
            } else {
                comeAboard(g, goal);
            }
        }

        private void comeAboard(int g, int boat) {
            Gull gull = gulls[g];
            if (gull.letter != NONE) {
                decked |= 1 << gull.letter;
            }
            putLetter(gull, ON_DECK, boat);
            gull.hunger = 0;
            gull.restAshore();
            arrivals++;
            came |= 1 << g;
            landing = boat;
        }

        private void starve(int g) {
            Gull gull = gulls[g];
            if (gull.hunger < MOST_HUNGER) {
                gull.hunger++;
                return;
            }
            putLetter(gull, LOST, NONE);
            gull.letter = NONE;
            gull.state = DEAD;
            died |= 1 << g;
        }

        private void putLetter(Gull gull, int place, int holder) {
            if (hasLetter(gull.letter)) {
                letters[gull.letter].put(place, holder);
            }
        }
    }

    /** The latest states to which undo() can go back, in a ring with one place more for a mark. */
    private static final class History {
        private static final int MOST = 12;
        private static final int PLACES = MOST + 1;

        private final Sea[] states = new Sea[PLACES];
        private int first;
        private int size;

        History(Rule rule) {
            for (int i = 0; i < PLACES; i++) {
                states[i] = new Sea(rule);
            }
        }

        int size() {
            return size;
        }

        void forget() {
            size = 0;
        }

        void mark(Sea sea) {
            states[(first + size) % PLACES].copyFrom(sea);
        }

        void hold() {
            if (size < MOST) {
                size++;
            } else {
                first = (first + 1) % PLACES;
            }
        }

        void back(Sea sea) {
            if (size > 0) {
                size--;
                sea.copyFrom(states[(first + size) % PLACES]);
            }
        }
    }

    /** The acts that a text tells for A DAY. */
    private static final class Diary {
        private static final int SIGNS = 60;
        private static final int MOST = 31;

        final int[] kinds = new int[MOST];
        final int[] ones = new int[MOST];
        final int[] others = new int[MOST];
        int size;

        int read(Text text) {
            size = 0;
            text.open(SIGNS);
            boolean more = !text.isEmpty();
            while (more && size < MOST) {
                readAct(text);
                size++;
                more = text.take(';');
            }
            return text.close();
        }

        private void readAct(Text text) {
            int kind = text.peek();
            kinds[size] = kind;
            others[size] = NONE;
            if (kind == 'h') {
                text.skip();
                ones[size] = text.isDigit(1, 9) ? text.digit(1, 9) : 1;
            } else if (kind == 'w' || kind == 'c') {
                text.skip();
                ones[size] = text.boatLetter(MOST_BOATS);
            } else if (kind == 'p') {
                text.skip();
                ones[size] = text.boatLetter(MOST_BOATS);
                others[size] = text.digit(0, 5);
            } else if (kind == 'f' || kind == 'o') {
                text.skip();
                ones[size] = text.digit(0, 9);
            } else if (kind == 's') {
                text.skip();
                ones[size] = text.digit(0, 9);
                others[size] = text.take('-') ? NONE : text.digit(0, 9);
            } else {
                text.refuse();
            }
        }
    }

    /** When boats know an order; what some make known together is the soonest of what each does alone. */
    private static final class Shouts {
        final int[] when = new int[MOST_BOATS];
        private final int[] inEarshot = new int[(LOOK_ON + 1) * MOST_BOATS];
        private final int[] byGull = new int[MOST_GULLS * MOST_BOATS];
        private int boatCount;

        /** Sails the boats on, so it is given a sea that may be changed. */
        void watch(Sea sea, int shout) {
            boatCount = sea.boatCount;
            for (int t = 0; t <= LOOK_ON; t++) {
                for (int b = 0; b < boatCount; b++) {
                    inEarshot[t * MOST_BOATS + b] = heardBy(sea, b, shout);
                }
                sea.sailAll();
            }
        }

        private static int heardBy(Sea sea, int b, int shout) {
            Boat one = sea.boats[b];
            int set = 0;
            for (int i = 0; i < sea.boatCount; i++) {
                Boat other = sea.boats[i];
                if (apart(one.x, one.y, other.x, other.y) <= shout) {
                    set |= 1 << i;
                }
            }
            return set;
        }

        /** Fills when[], if those boats come to know in half hour from. */
        void spread(int those, int from) {
            for (int b = 0; b < boatCount; b++) {
                when[b] = NONE;
            }
            int know = those;
            for (int t = Math.max(0, from); t <= LOOK_ON; t++) {
                know = afterShouts(know, t);
                for (int b = 0; b < boatCount; b++) {
                    if (when[b] == NONE && (know >> b & 1) == 1) {
                        when[b] = t;
                    }
                }
            }
        }

        private int afterShouts(int those, int t) {
            int know = those;
            // each round that helps makes one more boat know
            for (int round = 0; round < boatCount; round++) {
                int before = know;
                for (int b = 0; b < boatCount; b++) {
                    if ((know >> b & 1) == 1) {
                        know |= inEarshot[t * MOST_BOATS + b];
                    }
                }
                if (know == before) {
                    return know;
                }
            }
            return know;
        }

        int allKnow() {
            int last = 0;
            for (int b = 0; b < boatCount; b++) {
                if (when[b] == NONE) {
                    return NONE;
                }
                last = Math.max(last, when[b]);
            }
            return last;
        }

        void keepFor(int g) {
            System.arraycopy(when, 0, byGull, g * MOST_BOATS, MOST_BOATS);
        }

        int allKnowBy(int gullSet) {
            int last = 0;
            for (int b = 0; b < boatCount; b++) {
                int soonest = NONE;
                for (int g = 0; g < MOST_GULLS; g++) {
                    int alone = byGull[g * MOST_BOATS + b];
                    if ((gullSet >> g & 1) == 1 && alone != NONE && (soonest == NONE || alone < soonest)) {
                        soonest = alone;
                    }
                }
                if (soonest == NONE) {
                    return NONE;
                }
                last = Math.max(last, soonest);
            }
            return last;
        }
    }

    /** The best way to share new gulls among boats. */
    private static final class Training {
        private static final int WHOLE = 10000;
        private static final int MOST_ROWS = 2000;

        final int[] best = new int[MOST_BOATS];
        int chance;
        private final int[] tried = new int[MOST_BOATS];
        private final long[] all = new long[MOST_GULLS + 1];
        private final long[] dead = new long[MOST_GULLS + 1];
        private int boatCount;

        /** Tries rows from the least on, so that of as good ones the least stays. */
        void find(int boats, int gulls, int livesByTenths) {
            boatCount = Math.min(boats, MOST_BOATS);
            reckonPowers(10 - livesByTenths);
            chance = NONE;
            Arrays.fill(tried, 0);
            boolean more = boatCount > 0;
            if (more) {
                tried[boatCount - 1] = gulls;
            }
            for (int i = 0; i < MOST_ROWS && more; i++) {
                int result = chanceOfTried();
                if (result > chance) {
                    chance = result;
                    System.arraycopy(tried, 0, best, 0, boatCount);
                }
                more = goToNextRow();
            }
        }

        private void reckonPowers(int diesByTenths) {
            all[0] = 1;
            dead[0] = 1;
            for (int k = 1; k <= MOST_GULLS; k++) {
                all[k] = 10 * all[k - 1];
                dead[k] = diesByTenths * dead[k - 1];
            }
        }

        private int chanceOfTried() {
            long result = WHOLE;
            for (int b = 0; b < boatCount; b++) {
                int k = tried[b];
                if (k < 0 || k > MOST_GULLS || all[k] < 1) {
                    return 0;
                }
                result = result * (all[k] - dead[k]) / all[k];
            }
            return (int) result;
        }

        /** The least row above the tried one: one gull more ahead of the last that has some, all others at the end. */
        private boolean goToNextRow() {
            int from = boatCount - 1;
            while (from > 0 && tried[from] == 0) {
                from--;
            }
            if (from < 1) {
                return false;
            }
            int rest = tried[from] - 1;
            tried[from] = 0;
            tried[from - 1]++;
            tried[boatCount - 1] = rest;
            return true;
        }
    }

    private static final class Draw {
        private int r;

        void start(int seed) {
            r = seed;
        }

        int next(int n) {
            r = r * 1103515245 + 12345;
            return n < 1 ? 0 : (r >>> 16) % n;
        }
    }
}
