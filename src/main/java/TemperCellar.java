import java.util.Arrays;
import java.util.NoSuchElementException;

/** A cellar of corked tempers. The document's promises say what each call answers. */
public final class TemperCellar {
    public static final int NONE = -1;

    private static final int NOT_SO = -2;

    private static final int MOST_PEOPLE = 5;
    private static final int MOST_BOTTLES = 10;
    private static final int MOST_NEEDS = 8;
    private static final int MOST_KNOTS = 64;
    private static final int MOST_OPEN = 8;
    private static final int MOST_BYTES = 700;
    private static final int MOST_SEEN = 24;
    private static final int MOST_UNDONE = 20;
    private static final int MOST_RACKED = 4;
    private static final int MOST_LETTERS = 6;
    private static final int BINS = 6;
    private static final int LAWS = 3;

    private static final int MOST_YEARS = 99;
    private static final int MOST_YEARS_SEEN = 60;
    private static final int MOST_YEARS_RACKED = 60;
    private static final int MOST_YEARS_LASTED = 5;
    private static final int LAST_YEAR = 9900;
    private static final int MOST_FORCE = 199;
    private static final int MOST_CORK = 9;
    private static final int TIMES_DRAWN = 10;

    private static final int LYING = 0;
    private static final int OPENED = 1;
    private static final int OFF = 2;
    /** A place for a BOTTLE in which there is none. */
    private static final int MISSING = 3;

    private static final int UNMET = 0;
    private static final int MET_BY_OWN = 1;
    private static final int MET_BY_OTHERS = 2;

    private static final int AGES = 0;
    private static final int CREEP = 1;
    private static final int BURST = 2;

    private static final long ERROR = Long.MIN_VALUE;
    private static final long LARGEST = 1_000_000_000_000L;

    private static final int BY_NUMBERS = 0;
    private static final int AS_IT_GOES = 1;
    private static final int NEVER = 2;

    private static final int RACKED = 0;
    private static final int SEALED = 1;
    private static final int UNCORKED = 2;

    private static final int FAULT_TOKEN = 1;
    private static final int FAULT_TOO_MUCH = 2;
    private static final int FAULT_TOLD = 3;
    private static final int FAULT_NOBODY = 4;
    private static final int FAULT_ONESELF = 5;

    /** The language's words; the place of a word here is its kind of TOKEN, named below. */
    private static final String WORDS =
            "man bottle need thunder seed law ages creep burst force cork hated bin hot load year or and not ";
    private static final int WORD_MAN = 0;
    private static final int WORD_BOTTLE = 1;
    private static final int WORD_NEED = 2;
    private static final int WORD_THUNDER = 3;
    private static final int WORD_SEED = 4;
    private static final int WORD_LAW = 5;
    private static final int WORD_AGES = 6;
    private static final int WORD_BURST = 8;
    private static final int NAME_FORCE = 9;
    private static final int NAME_CORK = 10;
    private static final int NAME_HATED = 11;
    private static final int NAME_BIN = 12;
    private static final int NAME_HOT = 13;
    private static final int NAME_LOAD = 14;
    private static final int NAME_YEAR = 15;
    private static final int SIGN_OR = 16;
    private static final int SIGN_AND = 17;
    private static final int SIGN_NOT = 18;
    private static final int SIGN_LESS = 19;
    private static final int SIGN_AT_MOST = 20;
    private static final int SIGN_EQUAL = 21;
    private static final int SIGN_UNLIKE = 22;
    private static final int SIGN_AT_LEAST = 23;
    private static final int SIGN_MORE = 24;
    private static final int SIGN_PLUS = 25;
    private static final int SIGN_MINUS = 26;
    private static final int SIGN_TIMES = 27;
    private static final int SIGN_BY = 28;
    private static final int NUMBER = 29;
    private static final int OWN_NAME = 30;
    private static final int SEMICOLON = 31;
    private static final int OPENING = 32;
    private static final int CLOSING = 33;
    private static final int END = 34;
    private static final int NO_TOKEN = 35;

    /** How tightly signs bind: E, A, B, C, S, T, P of the document. */
    private static final int LEVEL_EITHER = 0;
    private static final int LEVEL_BOTH = 1;
    private static final int LEVEL_NOT = 2;
    private static final int LEVEL_COMPARED = 3;
    private static final int LEVEL_SUM = 4;
    private static final int LEVEL_PRODUCT = 5;
    private static final int LEVEL_PART = 6;

    private final byte[] tape = new byte[MOST_BYTES];
    private int tapeLength;
    private Told told = new Told();
    private Told spare = new Told();
    private final Tokens tokens = new Tokens(tape);
    private final Reader reader = new Reader(tokens, spare);
    private final Cellar now = new Cellar();
    private final Cellar image = new Cellar();
    private boolean hasImage;
    private final Cellar trial = new Cellar();
    private final Years years = new Years(told, trial);
    private final Undos undos = new Undos();
    private final Seen seen = new Seen();
    private final Service service = new Service(told, now);
    private final int[] racked = new int[MOST_RACKED];

    public TemperCellar() {
        now.layDown(told);
    }

    public int feed(int a, int b, int c, int d, int e) {
        if (tapeLength + 20 > MOST_BYTES) {
            return NONE;
        }
        putBytes(a);
        putBytes(b);
        putBytes(c);
        putBytes(d);
        putBytes(e);
        return tapeLength;
    }

    private void putBytes(int number) {
        for (int shift = 24; shift >= 0 && tapeLength < MOST_BYTES; shift -= 8) {
            tape[tapeLength] = (byte) (number >> shift);
            tapeLength++;
        }
    }

    public int text(int n) {
        if (n < 0 || n > tapeLength) {
            return NOT_SO;
        }
        tapeLength = 0;
        tokens.readAll(n);
        int lines = reader.read(spare);
        if (lines == NONE) {
            return NONE;
        }
        Told before = told;
        told = spare;
        spare = before;
        now.layDown(told);
        seen.clear();
        undos.clear();
        hasImage = false;
        return lines;
    }

    public int fault(int what) {
        if (what == 0) {
            return reader.fault;
        }
        return what == 1 ? reader.faultPlace : NONE;
    }

    public int named(int what, int letters) {
        if (what == 0) {
            return told.personNamed(letters);
        }
        return what == 1 ? told.bottleNamed(letters) : NONE;
    }

    public int bottle(int bottle, int what) throws IndexOutOfBoundsException, NoSuchElementException {
        if (!isBottle(bottle)) {
            throw new IndexOutOfBoundsException("no such bottle");
        }
        switch (what) {
            case 0:
                return told.whose[bottle];
            case 1:
                return told.atWhom[bottle];
            case 2:
                return now.bin[bottle];
            case 3:
                return now.force[bottle];
            case 4:
                return now.cork[bottle];
            case 5:
                return now.state[bottle];
            case 6:
                return now.opener[bottle];
            default:
                throw new NoSuchElementException("no such what");
        }
    }

    public int man(int man, int what) {
        if (!isPerson(man)) {
            return NONE;
        }
        switch (what) {
            case 0:
                return told.hot[man];
            case 1:
                return Integer.bitCount(lyingOf(man));
            case 2:
                return forceOf(lyingOf(man));
            case 3:
                return now.hates[man];
            default:
                return NONE;
        }
    }

    public int need(int need, int what) {
        if (!isNeed(need)) {
            return NONE;
        }
        switch (what) {
            case 0:
                return told.needOf[need];
            case 1:
                return told.needYear[need];
            case 2:
                return told.needFrom[need];
            case 3:
                return told.needTo[need];
            case 4:
                return now.met[need];
            default:
                return NONE;
        }
    }

    public int bin(int bin) {
        if (!isBin(bin)) {
            return NONE;
        }
        int bits = 0;
        for (int bottle = 0; bottle < told.bottles; bottle++) {
            if (now.isLying(bottle) && now.bin[bottle] == bin) {
                bits |= 1 << bottle;
            }
        }
        return bits;
    }

    public long law(int what, int bottle) {
        if (what < AGES || what > BURST || !isLyingBottle(bottle)) {
            return ERROR;
        }
        years.start(told, now, AS_IT_GOES);
        return years.worth(what, bottle);
    }

    public boolean rack(int bottle, int bin) {
        if (!isLyingBottle(bottle) || !isBin(bin) || now.bin[bottle] == bin) {
            return false;
        }
        undos.add(RACKED, bottle, now.bin[bottle]);
        now.move(bottle, bin);
        return true;
    }

    public int seal(int bottle) {
        if (!isBottle(bottle)) {
            return NONE;
        }
        if (!now.isLying(bottle) || now.cork[bottle] == told.cork[bottle]) {
            return NOT_SO;
        }
        undos.add(SEALED, bottle, now.cork[bottle]);
        now.cork[bottle] = told.cork[bottle];
        return now.cork[bottle];
    }

    public int open(int bottle) {
        if (!isBottle(bottle)) {
            return NONE;
        }
        if (!now.isLying(bottle)) {
            return NOT_SO;
        }
        undos.add(UNCORKED, bottle, LYING);
        now.leave(bottle, OPENED);
        return now.force[bottle];
    }

    public int go(int n) {
        if (!isAmong(n, 0, MOST_YEARS) || now.year + n > LAST_YEAR) {
            return NONE;
        }
        if (n > 0) {
            undos.clear();
        }
        years.start(told, now, BY_NUMBERS);
        years.pass(n);
        return now.year;
    }

    public int ahead(int n, int what, int bottle) {
        if (!isAmong(n, 0, MOST_YEARS) || !isAmong(what, 0, 4) || (what == 4 && !isBottle(bottle))) {
            return NONE;
        }
        startTrial(AS_IT_GOES);
        years.pass(n);
        switch (what) {
            case 0:
                return moreOff();
            case 1:
                return trial.metNeeds() - now.metNeeds();
            case 2:
                return trial.unmetNeeds() - now.unmetNeeds();
            case 3:
                return trial.hatingPairs() - now.hatingPairs();
            default:
                return trial.force[bottle];
        }
    }

    public int firstOff(int what) {
        if (!isAmong(what, 0, 1)) {
            return NONE;
        }
        startTrial(AS_IT_GOES);
        int before = now.bits(OFF);
        for (int year = 1; year <= MOST_YEARS; year++) {
            years.passOne();
            int gone = trial.bits(OFF) & ~before;
            if (gone != 0) {
                return what == 0 ? year : gone;
            }
        }
        return NOT_SO;
    }

    public int chain(int bottle) {
        if (!isBottle(bottle)) {
            return NONE;
        }
        if (!now.isLying(bottle)) {
            return NOT_SO;
        }
        startTrial(AS_IT_GOES);
        years.goOff(bottle);
        return trial.bits(OFF) & ~now.bits(OFF);
    }

    public int racking(int n, int what) {
        if (!isAmong(n, 1, MOST_YEARS_RACKED) || !isAmong(what, 0, MOST_RACKED)) {
            return NONE;
        }
        int count = findRacked();
        if (what < MOST_RACKED && what >= count) {
            return NOT_SO;
        }
        int ways = 1 << (2 * count);
        int fewest = MOST_BOTTLES + 1;
        int best = 0;
        for (int way = 0; way < ways && fewest > 0; way++) {
            int off = offIfRacked(way, count, n, fewest);
            if (off < fewest) {
                fewest = off;
                best = way;
            }
        }
        return what == MOST_RACKED ? fewest : binByWay(best, count, what);
    }

    private int findRacked() {
        int count = 0;
        for (int bottle = 0; bottle < told.bottles && count < MOST_RACKED; bottle++) {
            if (now.isLying(bottle)) {
                racked[count] = bottle;
                count++;
            }
        }
        return count;
    }

    /** Ways are counted up with the first BOTTLE's BIN highest, so an earlier way is the first of several. */
    private static int binByWay(int way, int count, int which) {
        return (way >> (2 * (count - 1 - which))) & 3;
    }

    /** A way that is no better than the fewest so far is left as soon as that shows. */
    private int offIfRacked(int way, int count, int n, int fewest) {
        startTrial(AS_IT_GOES);
        for (int which = 0; which < count; which++) {
            trial.move(racked[which], binByWay(way, count, which));
        }
        int off = 0;
        for (int year = 0; year < n && off < fewest; year++) {
            years.passOne();
            off = moreOff();
        }
        return off;
    }

    public int serve(int need) {
        if (!isNeed(need) || now.met[need] != NONE) {
            return NONE;
        }
        service.arrange(told, now);
        int bottle = service.bottleOf[need];
        return bottle == NONE ? NOT_SO : bottle;
    }

    public int served() {
        service.arrange(told, now);
        return service.most;
    }

    public int pour(int from, int to) {
        if (!isForce(from) || !isForce(to) || to < from) {
            return NONE;
        }
        for (int one = 0; one < told.bottles; one++) {
            for (int other = one + 1; other < told.bottles; other++) {
                int mean = (now.force[one] + now.force[other]) / 2;
                if (now.isLying(one) && now.isLying(other) && isAmong(mean, from, to)) {
                    return 10 * one + other;
                }
            }
        }
        return NOT_SO;
    }

    public int ripe(int bottle, int strength) {
        if (!isBottle(bottle) || !isForce(strength)) {
            return NONE;
        }
        startTrial(AS_IT_GOES);
        for (int year = 0; year <= MOST_YEARS && trial.isLying(bottle); year++) {
            if (trial.force[bottle] >= strength) {
                return year;
            }
            years.passOne();
        }
        return NOT_SO;
    }

    public int dowry(int man, int what) {
        if (!isPerson(man) || !isAmong(what, 0, 1)) {
            return NONE;
        }
        int all = lyingOf(man);
        int sum = forceOf(all);
        int best = 0;
        int least = sum;
        for (int heap = 1; heap <= all; heap++) {
            if ((heap & ~all) == 0) {
                int unlike = Math.abs(sum - 2 * forceOf(heap));
                if (unlike < least) {
                    least = unlike;
                    best = heap;
                }
            }
        }
        return what == 0 ? best : least;
    }

    public int ring() {
        int bits = 0;
        for (int person = 0; person < told.people; person++) {
            if (comesBack(person)) {
                bits |= 1 << person;
            }
        }
        return bits;
    }

    private boolean comesBack(int person) {
        int at = person;
        for (int step = 0; step < MOST_PEOPLE && at != NONE; step++) {
            int strongest = strongestOf(at);
            at = strongest == NONE ? NONE : told.atWhom[strongest];
            if (at == person) {
                return true;
            }
        }
        return false;
    }

    public int rests(int one, int other) {
        if (!isPerson(one) || !isPerson(other) || one == other) {
            return NONE;
        }
        int count = 0;
        for (int way = 0; way < 4; way++) {
            if (isRest(one, other, way)) {
                count++;
            }
        }
        return count;
    }

    public int rest(int one, int other, int k) {
        if (!isPerson(one) || !isPerson(other) || one == other || k < 0) {
            return NONE;
        }
        int count = 0;
        for (int way = 0; way < 4; way++) {
            if (isRest(one, other, way)) {
                if (count == k) {
                    return 10 * (way >> 1) + (way & 1);
                }
                count++;
            }
        }
        return NOT_SO;
    }

    private boolean isRest(int one, int other, int way) {
        int ones = highestForceOf(one);
        int others = highestForceOf(other);
        boolean oneOpens = (way & 2) != 0;
        boolean otherOpens = (way & 1) != 0;
        return gain(ones, others, oneOpens, otherOpens) >= gain(ones, others, !oneOpens, otherOpens)
                && gain(others, ones, otherOpens, oneOpens) >= gain(others, ones, !otherOpens, oneOpens);
    }

    /** An opened BOTTLE is worth all of itself, a kept one a fourth; the other one's, if opened, costs its half. */
    private static int gain(int own, int others, boolean opens, boolean otherOpens) {
        int worth = opens ? own : own / 4;
        return otherOpens ? worth - others / 2 : worth;
    }

    private int highestForceOf(int person) {
        int strongest = strongestOf(person);
        return strongest == NONE ? 0 : now.force[strongest];
    }

    private int strongestOf(int person) {
        int strongest = NONE;
        for (int bottle = 0; bottle < told.bottles; bottle++) {
            if (now.isLying(bottle) && told.whose[bottle] == person
                    && (strongest == NONE || now.force[bottle] > now.force[strongest])) {
                strongest = bottle;
            }
        }
        return strongest;
    }

    public long lasts(int bottle, int n, int what) {
        if (!isLyingBottle(bottle) || !isAmong(n, 0, MOST_YEARS_LASTED) || !isAmong(what, 0, 1)) {
            return NONE;
        }
        long above = 0;
        long ways = 1;
        for (int struck = 0; struck <= n && struck < now.cork[bottle]; struck++) {
            above += ways * power(told.thunder, struck) * power(100 - told.thunder, n - struck);
            ways = ways * (n - struck) / (struck + 1);
        }
        long below = power(100, n);
        long common = commonPart(below, above);
        if (common <= 0) {
            return NONE;
        }
        return (what == 0 ? above : below) / common;
    }

    private static long power(long base, int times) {
        long product = 1;
        for (int i = 0; i < times; i++) {
            product *= base;
        }
        return product;
    }

    /** Euclid's steps for numbers up to 10 to the 10 are fewer than 60. */
    private static long commonPart(long one, long other) {
        for (int i = 0; i < 100 && other != 0; i++) {
            long left = one % other;
            one = other;
            other = left;
        }
        return one;
    }

    public int see(int years, int bottle, boolean isOff) {
        if (!isAmong(years, 1, MOST_YEARS_SEEN) || !isBottle(bottle)) {
            return NONE;
        }
        return seen.add(years, bottle, isOff);
    }

    public int out(int seen) {
        if (!isAmong(seen, 0, this.seen.count - 1)) {
            return NONE;
        }
        return this.seen.addStrike(seen);
    }

    public boolean known(int n) {
        if (!isAmong(n, NONE, seen.count)) {
            return false;
        }
        seen.knownBy = n;
        return true;
    }

    public int corks(int bottle) {
        if (!isBottle(bottle)) {
            return NONE;
        }
        seen.markKnown();
        int last = seen.lastKnownYear();
        int bits = 0;
        for (int cork = 0; cork <= MOST_CORK; cork++) {
            if (agreesWithSeen(bottle, cork, last)) {
                bits |= 1 << cork;
            }
        }
        return bits;
    }

    private boolean agreesWithSeen(int bottle, int cork, int last) {
        trial.layDown(told);
        trial.cork[bottle] = cork;
        years.start(told, trial, AS_IT_GOES);
        for (int year = 1; year <= last; year++) {
            years.passOne();
            if (!seen.agrees(year, trial)) {
                return false;
            }
        }
        return true;
    }

    public int chance(int seed, int n, int off) {
        if (seed < 0 || !isAmong(n, 1, MOST_YEARS) || !isAmong(off, 0, MOST_BOTTLES)) {
            return NONE;
        }
        long last = seed;
        int times = 0;
        for (int drawn = 0; drawn < TIMES_DRAWN; drawn++) {
            startTrial(BY_NUMBERS);
            trial.last = last;
            years.pass(n);
            last = trial.last;
            if (moreOff() >= off) {
                times++;
            }
        }
        return times;
    }

    public int tried(int what, int i, int n) {
        if (!isAmong(what, 0, 5) || !isAmong(n, 0, MOST_YEARS) || !(what == 2 ? isBottle(i) : i == 0)) {
            return NONE;
        }
        startTrial(what == 1 ? NEVER : AS_IT_GOES);
        if (what == 2 && trial.isLying(i)) {
            trial.leave(i, MISSING);
        }
        if (what == 5) {
            Arrays.fill(trial.cork, MOST_CORK);
        }
        years.setsOff = what != 3;
        years.ages = what != 4;
        years.pass(n);
        return moreOff();
    }

    public int undo() {
        if (undos.count == 0) {
            return NONE;
        }
        undos.takeLatest(now);
        return undos.count;
    }

    public int keep() {
        image.copyFrom(now);
        hasImage = true;
        return now.year;
    }

    public int back() {
        if (!hasImage) {
            return NONE;
        }
        now.copyFrom(image);
        undos.clear();
        return now.year;
    }

    public int count(int what) {
        switch (what) {
            case 0:
                return told.people;
            case 1:
                return told.bottles;
            case 2:
                return told.needs;
            case 3:
                return told.laws.knots;
            case 4:
                return now.year;
            case 5:
                return now.howMany(LYING);
            case 6:
                return now.howMany(OPENED);
            case 7:
                return now.howMany(OFF);
            case 8:
                return now.metNeeds();
            case 9:
                return now.unmetNeeds();
            case 10:
                return now.thunders;
            case 11:
                return now.hatingPairs();
            case 12:
                return seen.count;
            case 13:
                return seen.knownCount();
            case 14:
                return undos.count;
            default:
                return NONE;
        }
    }

    private void startTrial(int thunderBy) {
        trial.copyFrom(now);
        years.start(told, trial, thunderBy);
    }

    private int moreOff() {
        return trial.howMany(OFF) - now.howMany(OFF);
    }

    private int lyingOf(int person) {
        int bits = 0;
        for (int bottle = 0; bottle < told.bottles; bottle++) {
            if (now.isLying(bottle) && told.whose[bottle] == person) {
                bits |= 1 << bottle;
            }
        }
        return bits;
    }

    private int forceOf(int bits) {
        int sum = 0;
        for (int bottle = 0; bottle < told.bottles; bottle++) {
            if ((bits >> bottle & 1) != 0) {
                sum += now.force[bottle];
            }
        }
        return sum;
    }

    private boolean isPerson(int person) {
        return isAmong(person, 0, told.people - 1);
    }

    private boolean isBottle(int bottle) {
        return isAmong(bottle, 0, told.bottles - 1);
    }

    private boolean isLyingBottle(int bottle) {
        return isBottle(bottle) && now.isLying(bottle);
    }

    private boolean isNeed(int need) {
        return isAmong(need, 0, told.needs - 1);
    }

    private static boolean isBin(int bin) {
        return isAmong(bin, 0, BINS - 1);
    }

    private static boolean isForce(int force) {
        return isAmong(force, 0, MOST_FORCE);
    }

    private static boolean isAmong(int number, int least, int most) {
        return number >= least && number <= most;
    }

    /** The laws' E, each as a row of KNOTS in which a sign stands behind what it works on. */
    private static final class Laws {
        final int[] from = new int[LAWS];
        final int[] to = new int[LAWS];
        final int[] sign = new int[MOST_KNOTS];
        final int[] number = new int[MOST_KNOTS];
        int length;
        /** Counted as they are read: a sign is put only behind its right side. */
        int knots;

        Laws() {
            clear();
        }

        void clear() {
            Arrays.fill(from, NONE);
            Arrays.fill(to, NONE);
            length = 0;
            knots = 0;
        }

        boolean isTold(int law) {
            return from[law] != NONE;
        }

        void put(int itsSign, int itsNumber) {
            if (length < MOST_KNOTS) {
                sign[length] = itsSign;
                number[length] = itsNumber;
                length++;
            }
        }
    }

    /** What a TEXT tells, which no YEAR and no call changes. */
    private static final class Told {
        int people;
        final int[] personName = new int[MOST_PEOPLE];
        final int[] hot = new int[MOST_PEOPLE];
        int bottles;
        final int[] bottleName = new int[MOST_BOTTLES];
        final int[] whose = new int[MOST_BOTTLES];
        final int[] atWhom = new int[MOST_BOTTLES];
        final int[] bin = new int[MOST_BOTTLES];
        final int[] force = new int[MOST_BOTTLES];
        final int[] cork = new int[MOST_BOTTLES];
        int needs;
        final int[] needOf = new int[MOST_NEEDS];
        final int[] needYear = new int[MOST_NEEDS];
        final int[] needFrom = new int[MOST_NEEDS];
        final int[] needTo = new int[MOST_NEEDS];
        int thunder;
        int seed;
        final Laws laws = new Laws();

        void clear() {
            people = 0;
            bottles = 0;
            needs = 0;
            thunder = 0;
            seed = 0;
            laws.clear();
        }

        int personNamed(int name) {
            return placeOf(name, personName, people);
        }

        int bottleNamed(int name) {
            return placeOf(name, bottleName, bottles);
        }

        private static int placeOf(int name, int[] names, int count) {
            for (int i = 0; i < count && i < names.length; i++) {
                if (names[i] == name) {
                    return i;
                }
            }
            return NONE;
        }
    }

    /** The TOKENS of a TEXT, all read before the first is looked at; the last one is its END. */
    private static final class Tokens {
        private static final int BEYOND_ALL = 1_000_000;

        final byte[] tape;
        final int[] kind = new int[MOST_BYTES + 1];
        final int[] place = new int[MOST_BYTES + 1];
        /** A NUMBER's value, or the letters of a name. */
        final int[] value = new int[MOST_BYTES + 1];
        int length;
        int at;

        Tokens(byte[] itsTape) {
            tape = itsTape;
        }

        void readAll(int itsLength) {
            length = Math.min(itsLength, tape.length);
            at = 0;
            int count = 0;
            while (at < length && count < MOST_BYTES) {
                if (tape[at] == 10 || tape[at] == 32) {
                    at++;
                } else {
                    place[count] = at;
                    readOne(count);
                    count++;
                }
            }
            place[count] = length;
            kind[count] = END;
        }

        private void readOne(int which) {
            int sign = tape[at];
            if (isDigit(sign)) {
                readNumber(which);
            } else if (isLetter(sign)) {
                readWord(which);
            } else {
                kind[which] = signOf(sign, at + 1 < length ? tape[at + 1] : 0);
                at += isOfTwo(kind[which]) ? 2 : 1;
            }
        }

        private void readNumber(int which) {
            int number = 0;
            while (at < length && isDigit(tape[at])) {
                number = Math.min(number * 10 + (tape[at] - '0'), BEYOND_ALL);
                at++;
            }
            kind[which] = NUMBER;
            value[which] = number;
        }

        private void readWord(int which) {
            int first = at;
            int name = 0;
            while (at < length && isLetter(tape[at])) {
                int shift = 5 * (MOST_LETTERS - 1 - (at - first));
                if (shift >= 0) {
                    name |= (tape[at] - 'a' + 1) << shift;
                }
                at++;
            }
            int word = wordFrom(first, at - first);
            if (word == NONE) {
                word = at - first <= MOST_LETTERS ? OWN_NAME : NO_TOKEN;
            }
            kind[which] = word;
            value[which] = name;
        }

        private int wordFrom(int first, int letters) {
            int word = 0;
            int start = 0;
            for (int i = 0; i < WORDS.length(); i++) {
                if (WORDS.charAt(i) == ' ') {
                    if (i - start == letters && isAlike(start, first, letters)) {
                        return word;
                    }
                    word++;
                    start = i + 1;
                }
            }
            return NONE;
        }

        private boolean isAlike(int start, int first, int letters) {
            for (int i = 0; i < letters; i++) {
                if (WORDS.charAt(start + i) != tape[first + i]) {
                    return false;
                }
            }
            return true;
        }

        private static int signOf(int sign, int behind) {
            switch (sign) {
                case ';':
                    return SEMICOLON;
                case '(':
                    return OPENING;
                case ')':
                    return CLOSING;
                case '+':
                    return SIGN_PLUS;
                case '-':
                    return SIGN_MINUS;
                case '*':
                    return SIGN_TIMES;
                case '/':
                    return SIGN_BY;
                case '=':
                    return SIGN_EQUAL;
                case '<':
                    return behind == '=' ? SIGN_AT_MOST : behind == '>' ? SIGN_UNLIKE : SIGN_LESS;
                case '>':
                    return behind == '=' ? SIGN_AT_LEAST : SIGN_MORE;
                default:
                    return NO_TOKEN;
            }
        }

        private static boolean isOfTwo(int sign) {
            return sign == SIGN_AT_MOST || sign == SIGN_UNLIKE || sign == SIGN_AT_LEAST;
        }

        private static boolean isDigit(int sign) {
            return sign >= '0' && sign <= '9';
        }

        private static boolean isLetter(int sign) {
            return sign >= 'a' && sign <= 'z';
        }
    }

    /** Reads a TEXT up to its first FAULT: behind one nothing is taken any more. */
    private static final class Reader {
        final Tokens tokens;
        int at;
        Told told;
        boolean isThunderTold;
        boolean isSeedTold;
        int fault;
        int faultPlace = NONE;

        Reader(Tokens itsTokens, Told into) {
            tokens = itsTokens;
            told = into;
        }

        int read(Told into) {
            told = into;
            told.clear();
            isThunderTold = false;
            isSeedTold = false;
            fault = 0;
            faultPlace = NONE;
            at = 0;
            int lines = 0;
            while (lines < MOST_BYTES && fault == 0 && kind() != END) {
                readLine();
                lines++;
            }
            return fault == 0 ? lines : NONE;
        }

        private int kind() {
            return tokens.kind[at];
        }

        private int value() {
            return tokens.value[at];
        }

        private void step() {
            if (kind() != END) {
                at++;
            }
        }

        private void refuse(int itsFault) {
            if (fault == 0) {
                fault = itsFault;
                faultPlace = tokens.place[at];
            }
        }

        private void readLine() {
            switch (kind()) {
                case WORD_MAN:
                    readMan();
                    break;
                case WORD_BOTTLE:
                    readBottle();
                    break;
                case WORD_NEED:
                    readNeed();
                    break;
                case WORD_THUNDER:
                    readThunder();
                    break;
                case WORD_SEED:
                    readSeed();
                    break;
                case WORD_LAW:
                    readLaw();
                    break;
                default:
                    refuse(FAULT_TOKEN);
                    break;
            }
            take(SEMICOLON);
        }

        private void readMan() {
            int person = told.people;
            if (person >= MOST_PEOPLE) {
                refuse(FAULT_TOO_MUCH);
                return;
            }
            step();
            told.personName[person] = takeNewName(told.personNamed(value()));
            told.hot[person] = takeNumber(0, 9);
            told.people++;
        }

        private void readBottle() {
            int bottle = told.bottles;
            if (bottle >= MOST_BOTTLES) {
                refuse(FAULT_TOO_MUCH);
                return;
            }
            step();
            told.bottleName[bottle] = takeNewName(told.bottleNamed(value()));
            told.whose[bottle] = takePerson(NONE);
            told.atWhom[bottle] = takePerson(told.whose[bottle]);
            told.bin[bottle] = takeNumber(0, BINS - 1);
            told.force[bottle] = takeNumber(1, 99);
            told.cork[bottle] = takeNumber(1, MOST_CORK);
            told.bottles++;
        }

        private void readNeed() {
            int need = told.needs;
            if (need >= MOST_NEEDS) {
                refuse(FAULT_TOO_MUCH);
                return;
            }
            step();
            told.needOf[need] = takePerson(NONE);
            told.needYear[need] = takeNumber(0, 99);
            told.needFrom[need] = takeNumber(0, MOST_FORCE);
            told.needTo[need] = takeNumber(told.needFrom[need], MOST_FORCE);
            told.needs++;
        }

        private void readThunder() {
            if (isThunderTold) {
                refuse(FAULT_TOLD);
                return;
            }
            isThunderTold = true;
            step();
            told.thunder = takeNumber(0, 100);
        }

        private void readSeed() {
            if (isSeedTold) {
                refuse(FAULT_TOLD);
                return;
            }
            isSeedTold = true;
            step();
            told.seed = takeNumber(0, 99999);
        }

        private void readLaw() {
            step();
            if (!isAmong(kind(), WORD_AGES, WORD_BURST)) {
                refuse(FAULT_TOKEN);
                return;
            }
            int law = kind() - WORD_AGES;
            if (told.laws.isTold(law)) {
                refuse(FAULT_TOLD);
                return;
            }
            step();
            told.laws.from[law] = told.laws.length;
            readLevel(LEVEL_EITHER, 0);
            told.laws.to[law] = told.laws.length;
        }

        private void take(int wanted) {
            if (fault != 0) {
                return;
            }
            if (kind() != wanted) {
                refuse(FAULT_TOKEN);
                return;
            }
            step();
        }

        private int takeNumber(int least, int most) {
            int number = value();
            if (fault == 0 && kind() == NUMBER && !isAmong(number, least, most)) {
                refuse(FAULT_TOO_MUCH);
            }
            take(NUMBER);
            return fault == 0 ? number : 0;
        }

        private int takeNewName(int alike) {
            int name = value();
            if (fault == 0 && kind() == OWN_NAME && alike != NONE) {
                refuse(FAULT_TOLD);
            }
            take(OWN_NAME);
            return name;
        }

        private int takePerson(int other) {
            int person = told.personNamed(value());
            if (fault == 0 && kind() == OWN_NAME && person == NONE) {
                refuse(FAULT_NOBODY);
            }
            if (fault == 0 && kind() == OWN_NAME && person == other) {
                refuse(FAULT_ONESELF);
            }
            take(OWN_NAME);
            return fault == 0 ? person : NONE;
        }

        private void readLevel(int level, int open) {
            if (fault != 0) {
                return;
            }
            if (level == LEVEL_NOT) {
                readNot(open);
                return;
            }
            if (level >= LEVEL_PART) {
                readPart(open);
                return;
            }
            readLevel(level + 1, open);
            int most = level == LEVEL_COMPARED ? 1 : MOST_KNOTS;
            for (int i = 0; i < most && fault == 0 && levelOf(kind()) == level; i++) {
                int sign = kind();
                takeKnot();
                readLevel(level + 1, open);
                told.laws.put(sign, 0);
            }
        }

        private static int levelOf(int sign) {
            if (sign == SIGN_OR) {
                return LEVEL_EITHER;
            }
            if (sign == SIGN_AND) {
                return LEVEL_BOTH;
            }
            if (isAmong(sign, SIGN_LESS, SIGN_MORE)) {
                return LEVEL_COMPARED;
            }
            if (sign == SIGN_PLUS || sign == SIGN_MINUS) {
                return LEVEL_SUM;
            }
            return sign == SIGN_TIMES || sign == SIGN_BY ? LEVEL_PRODUCT : NONE;
        }

        /** One round more than there may be KNOTS, so that the 65th is refused as one. */
        private void readNot(int open) {
            int nots = 0;
            while (nots <= MOST_KNOTS && fault == 0 && kind() == SIGN_NOT) {
                takeKnot();
                nots++;
            }
            readLevel(LEVEL_NOT + 1, open);
            for (int i = 0; i < nots; i++) {
                told.laws.put(SIGN_NOT, 0);
            }
        }

        private void readPart(int open) {
            int kind = kind();
            if (kind == NUMBER || isAmong(kind, NAME_FORCE, NAME_YEAR)) {
                int number = kind == NUMBER ? value() : 0;
                if (number > 9999) {
                    refuse(FAULT_TOO_MUCH);
                }
                takeKnot();
                told.laws.put(kind, number);
            } else if (kind == OPENING) {
                if (open >= MOST_OPEN) {
                    refuse(FAULT_TOO_MUCH);
                }
                take(OPENING);
                readLevel(LEVEL_EITHER, open + 1);
                take(CLOSING);
            } else {
                refuse(FAULT_TOKEN);
            }
        }

        private void takeKnot() {
            if (told.laws.knots >= MOST_KNOTS) {
                refuse(FAULT_TOO_MUCH);
            }
            if (fault == 0) {
                told.laws.knots++;
                step();
            }
        }
    }

    /** All that YEARS and calls change: as it is now, in an IMAGE, or as it is tried. */
    private static final class Cellar {
        int year;
        /** The last number, before it is divided. */
        long last;
        int thunders;
        final int[] bin = new int[MOST_BOTTLES];
        final int[] force = new int[MOST_BOTTLES];
        final int[] cork = new int[MOST_BOTTLES];
        final int[] state = new int[MOST_BOTTLES];
        final int[] opener = new int[MOST_BOTTLES];
        final int[] met = new int[MOST_NEEDS];
        final int[] hates = new int[MOST_PEOPLE];
        /** Counted along, since laws ask for it again and again. */
        final int[] haters = new int[MOST_PEOPLE];
        final int[] load = new int[BINS];

        void layDown(Told told) {
            year = 0;
            last = told.seed;
            thunders = 0;
            Arrays.fill(state, MISSING);
            Arrays.fill(opener, NONE);
            Arrays.fill(met, NONE);
            Arrays.fill(hates, 0);
            Arrays.fill(haters, 0);
            Arrays.fill(load, 0);
            for (int bottle = 0; bottle < told.bottles; bottle++) {
                bin[bottle] = told.bin[bottle];
                force[bottle] = told.force[bottle];
                cork[bottle] = told.cork[bottle];
                lie(bottle);
            }
        }

        void copyFrom(Cellar other) {
            year = other.year;
            last = other.last;
            thunders = other.thunders;
            System.arraycopy(other.bin, 0, bin, 0, MOST_BOTTLES);
            System.arraycopy(other.force, 0, force, 0, MOST_BOTTLES);
            System.arraycopy(other.cork, 0, cork, 0, MOST_BOTTLES);
            System.arraycopy(other.state, 0, state, 0, MOST_BOTTLES);
            System.arraycopy(other.opener, 0, opener, 0, MOST_BOTTLES);
            System.arraycopy(other.met, 0, met, 0, MOST_NEEDS);
            System.arraycopy(other.hates, 0, hates, 0, MOST_PEOPLE);
            System.arraycopy(other.haters, 0, haters, 0, MOST_PEOPLE);
            System.arraycopy(other.load, 0, load, 0, BINS);
        }

        boolean isLying(int bottle) {
            return state[bottle] == LYING;
        }

        void lie(int bottle) {
            state[bottle] = LYING;
            load[bin[bottle]]++;
        }

        void leave(int bottle, int itsState) {
            state[bottle] = itsState;
            load[bin[bottle]]--;
        }

        void move(int bottle, int itsBin) {
            load[bin[bottle]]--;
            bin[bottle] = itsBin;
            load[itsBin]++;
        }

        void hate(int person, int whom) {
            if ((hates[person] >> whom & 1) == 0) {
                hates[person] |= 1 << whom;
                haters[whom]++;
            }
        }

        int bits(int itsState) {
            int bits = 0;
            for (int bottle = 0; bottle < MOST_BOTTLES; bottle++) {
                if (state[bottle] == itsState) {
                    bits |= 1 << bottle;
                }
            }
            return bits;
        }

        int howMany(int itsState) {
            return Integer.bitCount(bits(itsState));
        }

        int metNeeds() {
            return needsWith(MET_BY_OWN) + needsWith(MET_BY_OTHERS);
        }

        int unmetNeeds() {
            return needsWith(UNMET);
        }

        private int needsWith(int end) {
            int count = 0;
            for (int need = 0; need < MOST_NEEDS; need++) {
                if (met[need] == end) {
                    count++;
                }
            }
            return count;
        }

        int hatingPairs() {
            int count = 0;
            for (int person = 0; person < MOST_PEOPLE; person++) {
                count += haters[person];
            }
            return count;
        }
    }

    /** Lets YEARS go by in a cellar, or in one that is only tried. */
    private static final class Years {
        Told told;
        Cellar cellar;
        int thunderBy;
        boolean setsOff;
        boolean ages;
        final int[] queue = new int[MOST_BOTTLES];
        final long[] stack = new long[MOST_KNOTS];

        Years(Told itsTold, Cellar itsCellar) {
            told = itsTold;
            cellar = itsCellar;
        }

        void start(Told itsTold, Cellar itsCellar, int itsThunder) {
            told = itsTold;
            cellar = itsCellar;
            thunderBy = itsThunder;
            setsOff = true;
            ages = true;
        }

        void pass(int n) {
            for (int i = 0; i < n; i++) {
                passOne();
            }
        }

        void passOne() {
            if (isThundering()) {
                creep();
            }
            if (ages) {
                age();
            }
            for (int bottle = 0; bottle < told.bottles; bottle++) {
                if (cellar.isLying(bottle) && cellar.cork[bottle] == 0) {
                    goOff(bottle);
                }
            }
            for (int need = 0; need < told.needs; need++) {
                if (told.needYear[need] == cellar.year) {
                    meet(need);
                }
            }
            cellar.year++;
        }

        private boolean isThundering() {
            if (thunderBy == NEVER) {
                return false;
            }
            if (thunderBy == AS_IT_GOES) {
                return told.thunder >= 50;
            }
            if (told.thunder == 0 || told.thunder == 100) {
                return told.thunder == 100;
            }
            cellar.last = (cellar.last * 1103515245L + 12345L) & 0x7fffffffL;
            return cellar.last / 65536 % 100 < told.thunder;
        }

        private void creep() {
            cellar.thunders++;
            for (int bottle = 0; bottle < told.bottles; bottle++) {
                if (cellar.isLying(bottle)) {
                    cellar.cork[bottle] = Math.max(cellar.cork[bottle] - measure(CREEP, bottle), 0);
                }
            }
        }

        private void age() {
            for (int bottle = 0; bottle < told.bottles; bottle++) {
                if (cellar.isLying(bottle)) {
                    cellar.force[bottle] = Math.min(cellar.force[bottle] + measure(AGES, bottle), MOST_FORCE);
                }
            }
        }

        private int measure(int law, int bottle) {
            long worth = worth(law, bottle);
            return worth == ERROR ? 1 : (int) Math.max(0, Math.min(worth, 9));
        }

        void goOff(int first) {
            cellar.leave(first, OFF);
            if (!setsOff) {
                return;
            }
            queue[0] = first;
            int waiting = 1;
            for (int next = 0; next < waiting && next < MOST_BOTTLES; next++) {
                int bin = cellar.bin[queue[next]];
                for (int bottle = 0; bottle < told.bottles; bottle++) {
                    if (cellar.isLying(bottle) && cellar.bin[bottle] == bin && waiting < MOST_BOTTLES
                            && bursts(bottle)) {
                        cellar.leave(bottle, OFF);
                        queue[waiting] = bottle;
                        waiting++;
                    }
                }
            }
        }

        private boolean bursts(int bottle) {
            long worth = worth(BURST, bottle);
            return worth == ERROR ? cellar.cork[bottle] <= 2 : worth != 0;
        }

        private void meet(int need) {
            int person = told.needOf[need];
            int own = weakest(need, true);
            int bottle = own != NONE ? own : weakest(need, false);
            if (bottle == NONE) {
                cellar.met[need] = UNMET;
                return;
            }
            cellar.leave(bottle, OPENED);
            cellar.opener[bottle] = person;
            cellar.met[need] = own != NONE ? MET_BY_OWN : MET_BY_OTHERS;
            if (own == NONE) {
                cellar.hate(person, told.atWhom[bottle]);
            }
        }

        private int weakest(int need, boolean isOwn) {
            int weakest = NONE;
            for (int bottle = 0; bottle < told.bottles; bottle++) {
                int force = cellar.force[bottle];
                if (cellar.isLying(bottle) && (told.whose[bottle] == told.needOf[need]) == isOwn
                        && isAmong(force, told.needFrom[need], told.needTo[need])
                        && (weakest == NONE || force < cellar.force[weakest])) {
                    weakest = bottle;
                }
            }
            return weakest;
        }

        long worth(int law, int bottle) {
            int from = told.laws.from[law];
            int to = told.laws.to[law];
            if (from == NONE) {
                return ERROR;
            }
            int height = 0;
            for (int i = from; i < to; i++) {
                int sign = told.laws.sign[i];
                long value;
                if (sign == NUMBER) {
                    value = told.laws.number[i];
                } else if (sign <= NAME_YEAR) {
                    value = nameWorth(sign, bottle);
                } else if (sign == SIGN_NOT && height > 0) {
                    height--;
                    value = stack[height] == 0 ? 1 : 0;
                } else if (height > 1) {
                    height -= 2;
                    value = joined(sign, stack[height], stack[height + 1]);
                } else {
                    return ERROR;
                }
                if (value > LARGEST || value < -LARGEST || height >= MOST_KNOTS) {
                    return ERROR;
                }
                stack[height] = value;
                height++;
            }
            return height > 0 ? stack[0] : ERROR;
        }

        private long nameWorth(int name, int bottle) {
            switch (name) {
                case NAME_FORCE:
                    return cellar.force[bottle];
                case NAME_CORK:
                    return cellar.cork[bottle];
                case NAME_HATED:
                    return cellar.haters[told.atWhom[bottle]];
                case NAME_BIN:
                    return cellar.bin[bottle];
                case NAME_HOT:
                    return told.hot[told.whose[bottle]];
                case NAME_LOAD:
                    return cellar.load[cellar.bin[bottle]];
                case NAME_YEAR:
                    return cellar.year;
                default:
                    return ERROR;
            }
        }

        private static long joined(int sign, long left, long right) {
            switch (sign) {
                case SIGN_OR:
                    return left != 0 || right != 0 ? 1 : 0;
                case SIGN_AND:
                    return left != 0 && right != 0 ? 1 : 0;
                case SIGN_LESS:
                    return left < right ? 1 : 0;
                case SIGN_AT_MOST:
                    return left <= right ? 1 : 0;
                case SIGN_EQUAL:
                    return left == right ? 1 : 0;
                case SIGN_UNLIKE:
                    return left != right ? 1 : 0;
                case SIGN_AT_LEAST:
                    return left >= right ? 1 : 0;
                case SIGN_MORE:
                    return left > right ? 1 : 0;
                case SIGN_PLUS:
                    return left + right;
                case SIGN_MINUS:
                    return left - right;
                case SIGN_TIMES:
                    return product(left, right);
                case SIGN_BY:
                    return right == 0 ? ERROR : left / right;
                default:
                    return ERROR;
            }
        }

        /** Looked at before it is worked out: a long could not hold all of them. */
        private static long product(long left, long right) {
            long most = left == 0 ? LARGEST : LARGEST / (left < 0 ? -left : left);
            return right > most || right < -most ? ERROR : left * right;
        }
    }

    /** What was done by call since the latest YEAR, the latest last. */
    private static final class Undos {
        int count;
        final int[] deed = new int[MOST_UNDONE];
        final int[] bottle = new int[MOST_UNDONE];
        final int[] before = new int[MOST_UNDONE];

        void clear() {
            count = 0;
        }

        void add(int itsDeed, int itsBottle, int itsBefore) {
            if (count >= MOST_UNDONE) {
                forgetFirst();
            }
            deed[count] = itsDeed;
            bottle[count] = itsBottle;
            before[count] = itsBefore;
            count++;
        }

        private void forgetFirst() {
            System.arraycopy(deed, 1, deed, 0, MOST_UNDONE - 1);
            System.arraycopy(bottle, 1, bottle, 0, MOST_UNDONE - 1);
            System.arraycopy(before, 1, before, 0, MOST_UNDONE - 1);
            count = MOST_UNDONE - 1;
        }

        void takeLatest(Cellar cellar) {
            if (count <= 0) {
                return;
            }
            count--;
            if (deed[count] == RACKED) {
                cellar.move(bottle[count], before[count]);
            } else if (deed[count] == SEALED) {
                cellar.cork[bottle[count]] = before[count];
            } else {
                cellar.lie(bottle[count]);
            }
        }
    }

    /** What was SEEN, and what strikes some of it. */
    private static final class Seen {
        int count;
        /** NONE: by all, also those to come. */
        int knownBy = NONE;
        final int[] years = new int[MOST_SEEN];
        final int[] bottle = new int[MOST_SEEN];
        final boolean[] isOff = new boolean[MOST_SEEN];
        /** NONE: it strikes none. */
        final int[] strikes = new int[MOST_SEEN];
        final boolean[] isStruck = new boolean[MOST_SEEN];
        final boolean[] isKnown = new boolean[MOST_SEEN];

        void clear() {
            count = 0;
            knownBy = NONE;
        }

        int add(int itsYears, int itsBottle, boolean itsOff) {
            if (count >= MOST_SEEN) {
                return NONE;
            }
            years[count] = itsYears;
            bottle[count] = itsBottle;
            isOff[count] = itsOff;
            strikes[count] = NONE;
            count++;
            return count - 1;
        }

        int addStrike(int which) {
            int number = add(0, 0, false);
            if (number != NONE) {
                strikes[number] = which;
            }
            return number;
        }

        int knownCount() {
            return knownBy == NONE ? count : Math.min(knownBy, count);
        }

        void markKnown() {
            int n = knownCount();
            for (int i = 0; i < n; i++) {
                isStruck[i] = false;
            }
            for (int i = n - 1; i >= 0; i--) {
                boolean isStriking = strikes[i] != NONE;
                isKnown[i] = !isStruck[i] && !isStriking;
                if (isStriking && !isStruck[i]) {
                    isStruck[strikes[i]] = true;
                }
            }
        }

        int lastKnownYear() {
            int last = 0;
            int n = knownCount();
            for (int i = 0; i < n; i++) {
                if (isKnown[i]) {
                    last = Math.max(last, years[i]);
                }
            }
            return last;
        }

        boolean agrees(int year, Cellar cellar) {
            int n = knownCount();
            for (int i = 0; i < n; i++) {
                if (isKnown[i] && years[i] == year && isOff[i] != (cellar.state[bottle[i]] == OFF)) {
                    return false;
                }
            }
            return true;
        }
    }

    /** SERVE: most NEEDS to come, each by a BOTTLE of its own. */
    private static final class Service {
        Told told;
        Cellar cellar;
        int most;
        final int[] bottleOf = new int[MOST_NEEDS];

        Service(Told itsTold, Cellar itsCellar) {
            told = itsTold;
            cellar = itsCellar;
        }

        void arrange(Told itsTold, Cellar itsCellar) {
            told = itsTold;
            cellar = itsCellar;
            int free = cellar.bits(LYING);
            int left = mostFrom(0, free);
            most = left;
            for (int need = 0; need < told.needs; need++) {
                int bottle = choose(need, free, left);
                bottleOf[need] = bottle;
                if (bottle != NONE) {
                    free &= ~(1 << bottle);
                    left--;
                }
            }
        }

        private int choose(int need, int free, int left) {
            for (int bottle = 0; bottle < told.bottles; bottle++) {
                if (fits(need, bottle, free) && 1 + mostFrom(need + 1, free & ~(1 << bottle)) == left) {
                    return bottle;
                }
            }
            return NONE;
        }

        private boolean fits(int need, int bottle, int free) {
            return cellar.met[need] == NONE && (free >> bottle & 1) != 0
                    && isAmong(cellar.force[bottle], told.needFrom[need], told.needTo[need]);
        }

        /** The NEED that ends first takes the weakest that fits: any later one could use what is left as well. */
        private int mostFrom(int first, int free) {
            int done = 0;
            int count = 0;
            for (int i = first; i < told.needs; i++) {
                int need = endingFirst(first, done);
                if (need != NONE) {
                    done |= 1 << need;
                    int bottle = weakestFor(need, free);
                    if (bottle != NONE) {
                        free &= ~(1 << bottle);
                        count++;
                    }
                }
            }
            return count;
        }

        private int endingFirst(int first, int done) {
            int best = NONE;
            for (int need = first; need < told.needs; need++) {
                if ((done >> need & 1) == 0 && (best == NONE || told.needTo[need] < told.needTo[best])) {
                    best = need;
                }
            }
            return best;
        }

        private int weakestFor(int need, int free) {
            int weakest = NONE;
            for (int bottle = 0; bottle < told.bottles; bottle++) {
                if (fits(need, bottle, free)
                        && (weakest == NONE || cellar.force[bottle] < cellar.force[weakest])) {
                    weakest = bottle;
                }
            }
            return weakest;
        }
    }
}
