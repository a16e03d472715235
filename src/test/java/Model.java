import java.math.BigInteger;
import java.util.ArrayDeque;
import java.util.ArrayList;
import java.util.Arrays;
import java.util.List;
import java.util.NoSuchElementException;

/**
 * The document told a second time, as slowly and plainly as can be, for tests that compare answers.
 * It shares no code and no way of working with the class: trees for laws, exceptions for faults,
 * every possibility tried out.
 */
final class Model {
    static final class Fault extends RuntimeException {
        private static final long serialVersionUID = 1L;
        final int what;
        final int place;

        Fault(int what, int place) {
            super(null, null, false, false);
            this.what = what;
            this.place = place;
        }
    }

    static final class LawError extends RuntimeException {
        private static final long serialVersionUID = 1L;

        LawError() {
            super(null, null, false, false);
        }
    }

    record Token(String text, int place) {
    }

    record Person(String name, int hot) {
    }

    record Flask(String name, int whose, int atWhom, int bin, int force, int cork) {
    }

    record Need(int of, int year, int from, int to) {
    }

    record Tree(String knot, Tree left, Tree right) {
    }

    record Sight(int years, int bottle, boolean off, int strikes) {
    }

    static final class Text {
        final List<Person> people = new ArrayList<>();
        final List<Flask> bottles = new ArrayList<>();
        final List<Need> needs = new ArrayList<>();
        final Tree[] laws = new Tree[3];
        Integer thunder;
        Integer seed;
        int knots;
        int lines;

        int odds() {
            return thunder == null ? 0 : thunder;
        }
    }

    static final class State {
        int year;
        long last;
        int thunders;
        int[] bin;
        int[] force;
        int[] cork;
        int[] state;
        int[] opener;
        boolean[][] hates;
        int[] met;

        State(Text text) {
            int n = text.bottles.size();
            last = text.seed == null ? 0 : text.seed;
            bin = new int[n];
            force = new int[n];
            cork = new int[n];
            state = new int[n];
            opener = new int[n];
            Arrays.fill(opener, -1);
            for (int i = 0; i < n; i++) {
                bin[i] = text.bottles.get(i).bin();
                force[i] = text.bottles.get(i).force();
                cork[i] = text.bottles.get(i).cork();
            }
            hates = new boolean[text.people.size()][text.people.size()];
            met = new int[text.needs.size()];
            Arrays.fill(met, -1);
        }

        State(State other) {
            year = other.year;
            last = other.last;
            thunders = other.thunders;
            bin = other.bin.clone();
            force = other.force.clone();
            cork = other.cork.clone();
            state = other.state.clone();
            opener = other.opener.clone();
            hates = new boolean[other.hates.length][];
            for (int i = 0; i < hates.length; i++) {
                hates[i] = other.hates[i].clone();
            }
            met = other.met.clone();
        }

        int with(int what) {
            return (int) Arrays.stream(state).filter(s -> s == what).count();
        }

        int ended(int a, int b) {
            return (int) Arrays.stream(met).filter(m -> m == a || m == b).count();
        }

        int pairs() {
            int count = 0;
            for (boolean[] row : hates) {
                for (boolean one : row) {
                    count += one ? 1 : 0;
                }
            }
            return count;
        }
    }

    enum Thunder { NUMBERS, GOES, NEVER }

    private static final List<String> LANGUAGE = List.of("man", "bottle", "need", "thunder", "seed", "law", "ages",
            "creep", "burst", "or", "and", "not", "force", "cork", "hated", "bin", "hot", "load", "year");
    private static final List<String> NAMES = List.of("force", "cork", "hated", "bin", "hot", "load", "year");
    private static final List<String> RULES = List.of("ages", "creep", "burst");
    private static final BigInteger LIMIT = BigInteger.TEN.pow(12);

    private final List<Integer> tape = new ArrayList<>();
    private int fault = 0;
    private int place = -1;
    private Text text = new Text();
    private State now = new State(text);
    private State image = null;
    private final ArrayDeque<State> undone = new ArrayDeque<>();
    private final List<Sight> sights = new ArrayList<>();
    private int knownBy = -1;

    // ---- the text

    private static final class Parser {
        final List<Token> tokens;
        int at = 0;
        final Text text = new Text();
        int open = 0;

        Parser(List<Token> tokens) {
            this.tokens = tokens;
        }

        Token peek() {
            return tokens.get(at);
        }

        boolean is(String... texts) {
            return Arrays.asList(texts).contains(peek().text());
        }

        Fault wrong(int what) {
            return new Fault(what, peek().place());
        }

        void expect(String what) {
            if (!is(what)) {
                throw wrong(1);
            }
            at++;
        }

        boolean isNumber() {
            return peek().text().matches("[0-9]+");
        }

        boolean isWord() {
            return peek().text().matches("[a-z]{1,6}") && !LANGUAGE.contains(peek().text());
        }

        int number(int least, int most) {
            if (!isNumber()) {
                throw wrong(1);
            }
            BigInteger number = new BigInteger(peek().text());
            if (number.compareTo(BigInteger.valueOf(least)) < 0 || number.compareTo(BigInteger.valueOf(most)) > 0) {
                throw wrong(2);
            }
            at++;
            return number.intValue();
        }

        String newName(List<String> names) {
            if (!isWord()) {
                throw wrong(1);
            }
            if (names.contains(peek().text())) {
                throw wrong(3);
            }
            return tokens.get(at++).text();
        }

        int person() {
            if (!isWord()) {
                throw wrong(1);
            }
            int person = text.people.stream().map(Person::name).toList().indexOf(peek().text());
            if (person < 0) {
                throw wrong(4);
            }
            at++;
            return person;
        }

        Text parse() {
            while (!is("")) {
                line();
                expect(";");
                text.lines++;
            }
            return text;
        }

        void line() {
            String word = peek().text();
            if ((word.equals("man") && text.people.size() == 5) || (word.equals("bottle") && text.bottles.size() == 10)
                    || (word.equals("need") && text.needs.size() == 8)) {
                throw wrong(2);
            }
            if ((word.equals("thunder") && text.thunder != null) || (word.equals("seed") && text.seed != null)) {
                throw wrong(3);
            }
            if (!List.of("man", "bottle", "need", "thunder", "seed", "law").contains(word)) {
                throw wrong(1);
            }
            at++;
            switch (word) {
                case "man" -> text.people
                        .add(new Person(newName(text.people.stream().map(Person::name).toList()), number(0, 9)));
                case "bottle" -> bottle();
                case "need" -> {
                    int of = person();
                    int year = number(0, 99);
                    int from = number(0, 199);
                    text.needs.add(new Need(of, year, from, number(from, 199)));
                }
                case "thunder" -> text.thunder = number(0, 100);
                case "seed" -> text.seed = number(0, 99999);
                default -> {
                    int rule = RULES.indexOf(peek().text());
                    if (rule < 0) {
                        throw wrong(1);
                    }
                    if (text.laws[rule] != null) {
                        throw wrong(3);
                    }
                    at++;
                    text.laws[rule] = either();
                }
            }
        }

        void bottle() {
            String name = newName(text.bottles.stream().map(Flask::name).toList());
            int whose = person();
            int here = at;
            int atWhom = person();
            if (atWhom == whose) {
                throw new Fault(5, tokens.get(here).place());
            }
            text.bottles.add(new Flask(name, whose, atWhom, number(0, 5), number(1, 99), number(1, 9)));
        }

        String knot() {
            if (text.knots == 64) {
                throw wrong(2);
            }
            text.knots++;
            return tokens.get(at++).text();
        }

        Tree either() {
            Tree tree = both();
            while (is("or")) {
                tree = new Tree(knot(), tree, both());
            }
            return tree;
        }

        Tree both() {
            Tree tree = denied();
            while (is("and")) {
                tree = new Tree(knot(), tree, denied());
            }
            return tree;
        }

        Tree denied() {
            return is("not") ? new Tree(knot(), denied(), null) : compared();
        }

        Tree compared() {
            Tree tree = sum();
            return is("<", "<=", "=", "<>", ">=", ">") ? new Tree(knot(), tree, sum()) : tree;
        }

        Tree sum() {
            Tree tree = product();
            while (is("+", "-")) {
                tree = new Tree(knot(), tree, product());
            }
            return tree;
        }

        Tree product() {
            Tree tree = part();
            while (is("*", "/")) {
                tree = new Tree(knot(), tree, part());
            }
            return tree;
        }

        Tree part() {
            if (isNumber()) {
                number(0, 9999);
                at--;
                return new Tree(knot(), null, null);
            }
            if (NAMES.contains(peek().text())) {
                return new Tree(knot(), null, null);
            }
            if (!is("(")) {
                throw wrong(1);
            }
            if (open == 8) {
                throw wrong(2);
            }
            open++;
            at++;
            Tree tree = either();
            expect(")");
            open--;
            return tree;
        }
    }

    private static List<Token> tokens(String text) {
        var pattern = java.util.regex.Pattern.compile("[a-z]+|[0-9]+|<=|<>|>=|[;()+*/<=>-]|[^\\n ]",
                java.util.regex.Pattern.DOTALL);
        var matcher = pattern.matcher(text);
        List<Token> tokens = new ArrayList<>();
        while (matcher.find()) {
            tokens.add(new Token(matcher.group(), matcher.start()));
        }
        tokens.add(new Token("", text.length()));
        return tokens;
    }

    int feed(int a, int b, int c, int d, int e) {
        if (tape.size() + 20 > 700) {
            return -1;
        }
        for (int number : new int[] {a, b, c, d, e}) {
            tape.add(number >>> 24);
            tape.add(number >>> 16 & 255);
            tape.add(number >>> 8 & 255);
            tape.add(number & 255);
        }
        return tape.size();
    }

    int text(int n) {
        if (n < 0 || n > tape.size()) {
            return -2;
        }
        StringBuilder read = new StringBuilder();
        for (int i = 0; i < n; i++) {
            read.append((char) (int) tape.get(i));
        }
        tape.clear();
        try {
            Text parsed = new Parser(tokens(read.toString())).parse();
            text = parsed;
        } catch (Fault f) {
            fault = f.what;
            place = f.place;
            return -1;
        }
        fault = 0;
        place = -1;
        now = new State(text);
        image = null;
        undone.clear();
        sights.clear();
        knownBy = -1;
        return text.lines;
    }

    int fault(int what) {
        return what == 0 ? fault : what == 1 ? place : -1;
    }

    int named(int what, int letters) {
        List<String> names = what == 0 ? text.people.stream().map(Person::name).toList()
                : what == 1 ? text.bottles.stream().map(Flask::name).toList() : List.of();
        for (String name : names) {
            if (Due.letters(name) == letters) {
                return names.indexOf(name);
            }
        }
        return -1;
    }

    // ---- laws and years

    private BigInteger worth(Tree tree, State s, int b) {
        Flask flask = text.bottles.get(b);
        if (tree.left() == null) {
            int value = switch (tree.knot()) {
                case "force" -> s.force[b];
                case "cork" -> s.cork[b];
                case "hated" -> {
                    int count = 0;
                    for (boolean[] row : s.hates) {
                        count += row[flask.atWhom()] ? 1 : 0;
                    }
                    yield count;
                }
                case "bin" -> s.bin[b];
                case "hot" -> text.people.get(flask.whose()).hot();
                case "load" -> lyingIn(s, s.bin[b]).size();
                case "year" -> s.year;
                default -> Integer.parseInt(tree.knot());
            };
            return BigInteger.valueOf(value);
        }
        BigInteger left = worth(tree.left(), s, b);
        BigInteger right = tree.right() == null ? null : worth(tree.right(), s, b);
        BigInteger value = switch (tree.knot()) {
            case "not" -> bit(left.signum() == 0);
            case "and" -> bit(left.signum() != 0 && right.signum() != 0);
            case "or" -> bit(left.signum() != 0 || right.signum() != 0);
            case "<" -> bit(left.compareTo(right) < 0);
            case "<=" -> bit(left.compareTo(right) <= 0);
            case "=" -> bit(left.compareTo(right) == 0);
            case "<>" -> bit(left.compareTo(right) != 0);
            case ">=" -> bit(left.compareTo(right) >= 0);
            case ">" -> bit(left.compareTo(right) > 0);
            case "+" -> left.add(right);
            case "-" -> left.subtract(right);
            case "*" -> left.multiply(right);
            default -> {
                if (right.signum() == 0) {
                    throw new LawError();
                }
                yield left.divide(right);
            }
        };
        if (value.abs().compareTo(LIMIT) > 0) {
            throw new LawError();
        }
        return value;
    }

    private static BigInteger bit(boolean is) {
        return is ? BigInteger.ONE : BigInteger.ZERO;
    }

    /** null: without, or with an ERROR. */
    private Long lawOf(int what, State s, int b) {
        try {
            return text.laws[what] == null ? null : Long.valueOf(worth(text.laws[what], s, b).longValueExact());
        } catch (LawError e) {
            return null;
        }
    }

    private static List<Integer> lyingIn(State s, int bin) {
        List<Integer> lying = new ArrayList<>();
        for (int b = 0; b < s.bin.length; b++) {
            if (s.state[b] == 0 && s.bin[b] == bin) {
                lying.add(b);
            }
        }
        return lying;
    }

    private int amount(int what, State s, int b) {
        Long worth = lawOf(what, s, b);
        return worth == null ? 1 : (int) Math.max(0L, Math.min(9L, worth));
    }

    private boolean thunders(State s, Thunder by) {
        if (by == Thunder.NEVER) {
            return false;
        }
        if (by == Thunder.GOES) {
            return text.odds() >= 50;
        }
        if (text.odds() % 100 == 0) {
            return text.odds() == 100;
        }
        s.last = BigInteger.valueOf(s.last).multiply(BigInteger.valueOf(1103515245)).add(BigInteger.valueOf(12345))
                .mod(BigInteger.TWO.pow(31)).longValue();
        return s.last / 65536 % 100 < text.odds();
    }

    private void year(State s, Thunder by, boolean setsOff, boolean ages) {
        if (thunders(s, by)) {
            s.thunders++;
            for (int b = 0; b < s.bin.length; b++) {
                if (s.state[b] == 0) {
                    s.cork[b] = Math.max(0, s.cork[b] - amount(1, s, b));
                }
            }
        }
        for (int b = 0; b < s.bin.length; b++) {
            if (s.state[b] == 0 && ages) {
                s.force[b] = Math.min(199, s.force[b] + amount(0, s, b));
            }
        }
        for (int b = 0; b < s.bin.length; b++) {
            if (s.state[b] == 0 && s.cork[b] == 0) {
                off(s, b, setsOff);
            }
        }
        for (int n = 0; n < text.needs.size(); n++) {
            if (text.needs.get(n).year() == s.year) {
                meet(s, n);
            }
        }
        s.year++;
    }

    private void off(State s, int first, boolean setsOff) {
        s.state[first] = 2;
        ArrayDeque<Integer> queue = new ArrayDeque<>(List.of(first));
        while (setsOff && !queue.isEmpty()) {
            int one = queue.poll();
            for (int b : lyingIn(s, s.bin[one])) {
                Long worth = lawOf(2, s, b);
                if (worth == null ? s.cork[b] <= 2 : worth != 0) {
                    s.state[b] = 2;
                    queue.add(b);
                }
            }
        }
    }

    private void meet(State s, int n) {
        Need need = text.needs.get(n);
        for (int round = 1; round <= 2; round++) {
            for (int force = need.from(); force <= need.to(); force++) {
                for (int b = 0; b < s.bin.length; b++) {
                    boolean own = text.bottles.get(b).whose() == need.of();
                    if (s.state[b] == 0 && s.force[b] == force && own == (round == 1)) {
                        s.state[b] = 1;
                        s.opener[b] = need.of();
                        s.met[n] = round;
                        if (!own) {
                            s.hates[need.of()][text.bottles.get(b).atWhom()] = true;
                        }
                        return;
                    }
                }
            }
        }
        s.met[n] = 0;
    }

    private State after(State from, int n) {
        State s = new State(from);
        for (int i = 0; i < n; i++) {
            year(s, Thunder.GOES, true, true);
        }
        return s;
    }

    // ---- what is asked and done

    private boolean isBottle(int b) {
        return b >= 0 && b < text.bottles.size();
    }

    private boolean isPerson(int p) {
        return p >= 0 && p < text.people.size();
    }

    int bottle(int b, int what) {
        if (!isBottle(b)) {
            throw new IndexOutOfBoundsException();
        }
        return switch (what) {
            case 0 -> text.bottles.get(b).whose();
            case 1 -> text.bottles.get(b).atWhom();
            case 2 -> now.bin[b];
            case 3 -> now.force[b];
            case 4 -> now.cork[b];
            case 5 -> now.state[b];
            case 6 -> now.opener[b];
            default -> throw new NoSuchElementException();
        };
    }

    int man(int p, int what) {
        if (!isPerson(p) || what < 0 || what > 3) {
            return -1;
        }
        if (what == 0) {
            return text.people.get(p).hot();
        }
        if (what == 3) {
            int bits = 0;
            for (int q = 0; q < text.people.size(); q++) {
                bits += now.hates[p][q] ? 1 << q : 0;
            }
            return bits;
        }
        int count = 0;
        int sum = 0;
        for (int b = 0; b < now.bin.length; b++) {
            if (now.state[b] == 0 && text.bottles.get(b).whose() == p) {
                count++;
                sum += now.force[b];
            }
        }
        return what == 1 ? count : sum;
    }

    int need(int n, int what) {
        if (n < 0 || n >= text.needs.size()) {
            return -1;
        }
        Need need = text.needs.get(n);
        int[] row = {need.of(), need.year(), need.from(), need.to(), now.met[n]};
        return what < 0 || what > 4 ? -1 : row[what];
    }

    int bin(int bin) {
        return bin < 0 || bin > 5 ? -1 : bits(lyingIn(now, bin));
    }

    private static int bits(List<Integer> list) {
        return list.stream().mapToInt(i -> 1 << i).sum();
    }

    long law(int what, int b) {
        if (what < 0 || what > 2 || !isBottle(b) || now.state[b] != 0) {
            return Long.MIN_VALUE;
        }
        Long worth = lawOf(what, now, b);
        return worth == null ? Long.MIN_VALUE : worth;
    }

    private void remember() {
        undone.push(new State(now));
        if (undone.size() > 20) {
            undone.removeLast();
        }
    }

    boolean rack(int b, int bin) {
        if (!isBottle(b) || bin < 0 || bin > 5 || now.state[b] != 0 || now.bin[b] == bin) {
            return false;
        }
        remember();
        now.bin[b] = bin;
        return true;
    }

    int seal(int b) {
        if (!isBottle(b)) {
            return -1;
        }
        if (now.state[b] != 0 || now.cork[b] == text.bottles.get(b).cork()) {
            return -2;
        }
        remember();
        now.cork[b] = text.bottles.get(b).cork();
        return now.cork[b];
    }

    int open(int b) {
        if (!isBottle(b)) {
            return -1;
        }
        if (now.state[b] != 0) {
            return -2;
        }
        remember();
        now.state[b] = 1;
        return now.force[b];
    }

    int go(int n) {
        if (n < 0 || n > 99 || now.year + n > 9900) {
            return -1;
        }
        for (int i = 0; i < n; i++) {
            undone.clear();
            year(now, Thunder.NUMBERS, true, true);
        }
        return now.year;
    }

    int ahead(int n, int what, int b) {
        if (n < 0 || n > 99 || what < 0 || what > 4 || (what == 4 && !isBottle(b))) {
            return -1;
        }
        State s = after(now, n);
        return switch (what) {
            case 0 -> s.with(2) - now.with(2);
            case 1 -> s.ended(1, 2) - now.ended(1, 2);
            case 2 -> s.ended(0, 0) - now.ended(0, 0);
            case 3 -> s.pairs() - now.pairs();
            default -> s.force[b];
        };
    }

    int firstOff(int what) {
        if (what != 0 && what != 1) {
            return -1;
        }
        State s = new State(now);
        for (int n = 1; n <= 99; n++) {
            State before = s;
            s = after(s, 1);
            if (s.with(2) > before.with(2)) {
                return what == 0 ? n : newlyOff(before, s);
            }
        }
        return -2;
    }

    private static int newlyOff(State before, State s) {
        int bits = 0;
        for (int b = 0; b < s.state.length; b++) {
            bits += s.state[b] == 2 && before.state[b] != 2 ? 1 << b : 0;
        }
        return bits;
    }

    int chain(int b) {
        if (!isBottle(b)) {
            return -1;
        }
        if (now.state[b] != 0) {
            return -2;
        }
        State s = new State(now);
        off(s, b, true);
        return newlyOff(now, s);
    }

    int racking(int n, int what) {
        if (n < 1 || n > 60 || what < 0 || what > 4) {
            return -1;
        }
        List<Integer> first = new ArrayList<>();
        for (int b = 0; b < now.bin.length && first.size() < 4; b++) {
            if (now.state[b] == 0) {
                first.add(b);
            }
        }
        if (what < 4 && what >= first.size()) {
            return -2;
        }
        List<int[]> ways = List.of(new int[0]);
        for (int k = 0; k < first.size(); k++) {
            List<int[]> longer = new ArrayList<>();
            for (int[] way : ways) {
                for (int bin = 0; bin < 4; bin++) {
                    int[] more = Arrays.copyOf(way, k + 1);
                    more[k] = bin;
                    longer.add(more);
                }
            }
            ways = longer;
        }
        int[] best = null;
        int fewest = 99;
        for (int[] way : ways) {
            State s = new State(now);
            for (int k = 0; k < way.length; k++) {
                s.bin[first.get(k)] = way[k];
            }
            int off = after(s, n).with(2) - now.with(2);
            if (off < fewest) {
                fewest = off;
                best = way;
            }
        }
        return what == 4 ? fewest : best[what];
    }

    /** The best of needs from n on: how many, then the bottles (99: none). */
    private int[] bestService(int n, int taken, int[][][] kept) {
        if (n == text.needs.size()) {
            return new int[] {0};
        }
        if (kept[n][taken] != null) {
            return kept[n][taken];
        }
        int[] best = null;
        Need need = text.needs.get(n);
        for (int b = 0; b <= now.bin.length; b++) {
            boolean none = b == now.bin.length;
            boolean fits = !none && now.met[n] == -1 && now.state[b] == 0 && (taken >> b & 1) == 0
                    && now.force[b] >= need.from() && now.force[b] <= need.to();
            if (none || fits) {
                int[] rest = bestService(n + 1, none ? taken : taken | 1 << b, kept);
                int[] way = new int[rest.length + 1];
                way[0] = rest[0] + (none ? 0 : 1);
                way[1] = none ? -2 : b;
                System.arraycopy(rest, 1, way, 2, rest.length - 1);
                if (best == null || way[0] > best[0]) {
                    best = way;
                }
            }
        }
        kept[n][taken] = best;
        return best;
    }

    int serve(int n) {
        if (n < 0 || n >= text.needs.size() || now.met[n] != -1) {
            return -1;
        }
        return bestService(0, 0, new int[8][1024][])[n + 1];
    }

    int served() {
        return bestService(0, 0, new int[8][1024][])[0];
    }

    int pour(int from, int to) {
        if (from < 0 || to > 199 || from > to) {
            return -1;
        }
        for (int pair = 0; pair < 100; pair++) {
            int a = pair / 10;
            int b = pair % 10;
            if (a < b && isBottle(b) && now.state[a] == 0 && now.state[b] == 0) {
                int mean = (now.force[a] + now.force[b]) / 2;
                if (mean >= from && mean <= to) {
                    return pair;
                }
            }
        }
        return -2;
    }

    int ripe(int b, int strength) {
        if (!isBottle(b) || strength < 0 || strength > 199) {
            return -1;
        }
        State s = now;
        for (int n = 0; n <= 99; n++) {
            if (s.state[b] == 0 && s.force[b] >= strength) {
                return n;
            }
            s = after(s, 1);
        }
        return -2;
    }

    int dowry(int p, int what) {
        if (!isPerson(p) || what < 0 || what > 1) {
            return -1;
        }
        int heap = -1;
        int least = Integer.MAX_VALUE;
        for (int bits = 0; bits < 1024; bits++) {
            boolean mine = true;
            int one = 0;
            int other = 0;
            for (int b = 0; b < 10; b++) {
                boolean has = isBottle(b) && now.state[b] == 0 && text.bottles.get(b).whose() == p;
                boolean in = (bits >> b & 1) == 1;
                mine &= has || !in;
                one += has && in ? now.force[b] : 0;
                other += has && !in ? now.force[b] : 0;
            }
            if (mine && Math.abs(one - other) < least) {
                least = Math.abs(one - other);
                heap = bits;
            }
        }
        return what == 0 ? heap : least;
    }

    private int strongest(int p) {
        int best = -1;
        for (int b = now.bin.length - 1; b >= 0; b--) {
            if (now.state[b] == 0 && text.bottles.get(b).whose() == p
                    && (best < 0 || now.force[b] >= now.force[best])) {
                best = b;
            }
        }
        return best;
    }

    int ring() {
        int n = text.people.size();
        boolean[][] reach = new boolean[n][n];
        for (int p = 0; p < n; p++) {
            if (strongest(p) >= 0) {
                reach[p][text.bottles.get(strongest(p)).atWhom()] = true;
            }
        }
        for (int k = 0; k < n; k++) {
            for (int i = 0; i < n; i++) {
                for (int j = 0; j < n; j++) {
                    reach[i][j] |= reach[i][k] && reach[k][j];
                }
            }
        }
        int bits = 0;
        for (int p = 0; p < n; p++) {
            bits += reach[p][p] ? 1 << p : 0;
        }
        return bits;
    }

    private List<Integer> restsOf(int one, int other) {
        int a = strongest(one) < 0 ? 0 : now.force[strongest(one)];
        int b = strongest(other) < 0 ? 0 : now.force[strongest(other)];
        int[][] first = {{a / 4, a / 4 - b / 2}, {a, a - b / 2}};
        int[][] second = {{b / 4, b}, {b / 4 - a / 2, b - a / 2}};
        List<Integer> rests = new ArrayList<>();
        for (int i = 0; i < 2; i++) {
            for (int j = 0; j < 2; j++) {
                if (first[i][j] >= first[1 - i][j] && second[i][j] >= second[i][1 - j]) {
                    rests.add(10 * i + j);
                }
            }
        }
        return rests;
    }

    int rests(int one, int other) {
        return !isPerson(one) || !isPerson(other) || one == other ? -1 : restsOf(one, other).size();
    }

    int rest(int one, int other, int k) {
        if (!isPerson(one) || !isPerson(other) || one == other || k < 0) {
            return -1;
        }
        List<Integer> rests = restsOf(one, other);
        return k < rests.size() ? rests.get(k) : -2;
    }

    long lasts(int b, int n, int what) {
        if (!isBottle(b) || n < 0 || n > 5 || what < 0 || what > 1 || now.state[b] != 0) {
            return -1;
        }
        long above = 0;
        for (int course = 0; course < 1 << n; course++) {
            long weight = 1;
            for (int i = 0; i < n; i++) {
                weight *= (course >> i & 1) == 1 ? text.odds() : 100 - text.odds();
            }
            above += Integer.bitCount(course) < now.cork[b] ? weight : 0;
        }
        BigInteger below = BigInteger.valueOf(100).pow(n);
        BigInteger common = below.gcd(BigInteger.valueOf(above));
        return what == 0 ? above / common.longValue() : below.divide(common).longValue();
    }

    int see(int years, int b, boolean off) {
        if (years < 1 || years > 60 || !isBottle(b) || sights.size() == 24) {
            return -1;
        }
        sights.add(new Sight(years, b, off, -1));
        return sights.size() - 1;
    }

    int out(int seen) {
        if (seen < 0 || seen >= sights.size() || sights.size() == 24) {
            return -1;
        }
        sights.add(new Sight(0, 0, false, seen));
        return sights.size() - 1;
    }

    boolean known(int n) {
        if (n < -1 || n > sights.size()) {
            return false;
        }
        knownBy = n;
        return true;
    }

    private int knownCount() {
        return knownBy < 0 ? sights.size() : knownBy;
    }

    private boolean isStruck(int i) {
        for (int j = i + 1; j < knownCount(); j++) {
            if (sights.get(j).strikes() == i && !isStruck(j)) {
                return true;
            }
        }
        return false;
    }

    int corks(int b) {
        if (!isBottle(b)) {
            return -1;
        }
        int bits = 0;
        for (int cork = 0; cork <= 9; cork++) {
            List<State> courses = new ArrayList<>();
            State s = new State(text);
            s.cork[b] = cork;
            for (int n = 0; n <= 60; n++) {
                courses.add(s);
                s = after(s, 1);
            }
            boolean all = true;
            for (int i = 0; i < knownCount(); i++) {
                Sight sight = sights.get(i);
                if (sight.strikes() < 0 && !isStruck(i)) {
                    all &= (courses.get(sight.years()).state[sight.bottle()] == 2) == sight.off();
                }
            }
            bits += all ? 1 << cork : 0;
        }
        return bits;
    }

    int chance(int seed, int n, int off) {
        if (seed < 0 || n < 1 || n > 99 || off < 0 || off > 10) {
            return -1;
        }
        int count = 0;
        long last = seed;
        for (int time = 0; time < 10; time++) {
            State s = new State(now);
            s.last = last;
            for (int i = 0; i < n; i++) {
                year(s, Thunder.NUMBERS, true, true);
            }
            last = s.last;
            count += s.with(2) - now.with(2) >= off ? 1 : 0;
        }
        return count;
    }

    int tried(int what, int i, int n) {
        if (what < 0 || what > 5 || n < 0 || n > 99 || (what == 2 ? !isBottle(i) : i != 0)) {
            return -1;
        }
        State s = new State(now);
        if (what == 2) {
            s.state[i] = s.state[i] == 0 ? 7 : s.state[i];
        }
        if (what == 5) {
            Arrays.fill(s.cork, 9);
        }
        for (int y = 0; y < n; y++) {
            year(s, what == 1 ? Thunder.NEVER : Thunder.GOES, what != 3, what != 4);
        }
        return s.with(2) - now.with(2);
    }

    int undo() {
        if (undone.isEmpty()) {
            return -1;
        }
        now = undone.pop();
        return undone.size();
    }

    int keep() {
        image = new State(now);
        return now.year;
    }

    int back() {
        if (image == null) {
            return -1;
        }
        now = new State(image);
        undone.clear();
        return now.year;
    }

    int count(int what) {
        int[] row = {text.people.size(), text.bottles.size(), text.needs.size(), text.knots, now.year, now.with(0),
                now.with(1), now.with(2), now.ended(1, 2), now.ended(0, 0), now.thunders, now.pairs(), sights.size(),
                knownCount(), undone.size()};
        return what < 0 || what >= row.length ? -1 : row[what];
    }
}
