import java.util.ArrayDeque;
import java.util.ArrayList;
import java.util.Arrays;
import java.util.Comparator;
import java.util.Deque;
import java.util.HashMap;
import java.util.HashSet;
import java.util.List;
import java.util.Map;
import java.util.Set;

/**
 * The document once more, told as plainly as can be and by other ways than the drawer's: trees for laws,
 * all dealings and all chains tried out. RandomRunsTest holds the two against each other.
 */
final class Model {
    static final int NONE = -1;

    // ---- the text ----

    static final class Fault extends RuntimeException {
        final int number;
        final int place;

        Fault(int number, int place) {
            super(null, null, false, false);
            this.number = number;
            this.place = place;
        }
    }

    static final class DividedByZero extends RuntimeException {
        DividedByZero() {
            super(null, null, false, false);
        }
    }

    interface Term {
        int of(Map<String, Integer> vars);
    }

    record Letter(String name, int hand, int want, int grief, int comes) { }

    record Reader(String name, int want, int taste, int patience) { }

    record Token(String text, int place) { }

    static final Set<String> VARS = Set.of("apart", "hand", "grief", "taste", "patience", "age", "day", "which", "had");
    static final Set<String> LAWS = Set.of("likes", "rathers", "returns", "answers");
    static final Set<String> OTHERS = Set.of("letter", "reader", "turns", "wet", "seed", "if", "then", "else");

    static final class Text {
        final List<Letter> letters = new ArrayList<>();
        final List<Reader> readers = new ArrayList<>();
        final Map<String, Term> laws = new HashMap<>();
        int turns;
        int wet;
        int seed;

        Text() {
            laws.put("likes", v -> 10 - v.get("apart"));
            laws.put("rathers", v -> v.get("patience"));
            laws.put("returns", v -> 0);
            laws.put("answers", v -> 0);
        }
    }

    static final class Reading {
        final String source;
        final List<Token> tokens = new ArrayList<>();
        final List<Fault> room = new ArrayList<>();
        final List<Fault> meaning = new ArrayList<>();
        final Set<String> names = new HashSet<>();
        final Text text = new Text();
        int strange = -1;
        int at;

        Reading(String source) {
            this.source = source;
        }

        void cut() {
            int i = 0;
            while (i < source.length()) {
                char c = source.charAt(i);
                if (c == 9 || c == 10 || c == 13 || c == 32) {
                    i++;
                    continue;
                }
                int j = i + 1;
                if (c >= 'a' && c <= 'z') {
                    while (j < source.length() && source.charAt(j) >= 'a' && source.charAt(j) <= 'z') {
                        j++;
                    }
                } else if (c >= '0' && c <= '9') {
                    while (j < source.length() && source.charAt(j) >= '0' && source.charAt(j) <= '9') {
                        j++;
                    }
                }
                String piece = source.substring(i, j);
                if (!piece.matches("[a-z]{1,8}|[0-9]{1,4}|[;=+*/<()-]")) {
                    strange = i;
                    return;
                }
                tokens.add(new Token(piece, i));
                i = j;
            }
        }

        String peek() {
            return at < tokens.size() ? tokens.get(at).text : "";
        }

        int herePlace() {
            return at < tokens.size() ? tokens.get(at).place : strange >= 0 ? strange : source.length();
        }

        Fault syntax() {
            return new Fault(1, herePlace());
        }

        void need(String word) {
            if (!peek().equals(word)) {
                throw syntax();
            }
            at++;
        }

        String needName() {
            String word = peek();
            if (!word.matches("[a-z]+") || VARS.contains(word) || LAWS.contains(word) || OTHERS.contains(word)) {
                throw syntax();
            }
            if (!names.add(word)) {
                meaning.add(new Fault(3, herePlace()));
            }
            at++;
            return word;
        }

        int needInt(int most) {
            String word = peek();
            if (!word.matches("[0-9]+")) {
                throw syntax();
            }
            int value = Integer.parseInt(word);
            if (value > most) {
                meaning.add(new Fault(5, herePlace()));
            }
            at++;
            return value;
        }

        void read() {
            cut();
            Fault worst = null;
            try {
                while (at < tokens.size() || strange >= 0) {
                    readTell();
                }
            } catch (Fault fault) {
                worst = fault;
            }
            if (tokens.size() > 400) {
                room.add(new Fault(2, tokens.get(400).place));
            }
            for (Fault fault : room) {
                worst = first(worst, fault);
            }
            if (worst == null) {
                for (Fault fault : meaning) {
                    worst = first(worst, fault);
                }
            }
            if (worst != null) {
                throw worst;
            }
        }

        static Fault first(Fault a, Fault b) {
            if (a == null) {
                return b;
            }
            return b.place < a.place || b.place == a.place && b.number < a.number ? b : a;
        }

        void readTell() {
            String word = peek();
            int place = herePlace();
            if (word.equals("letter")) {
                if (text.letters.size() >= 7) {
                    room.add(new Fault(2, place));
                }
                at++;
                text.letters.add(new Letter(needName(), needInt(9), needInt(9), needInt(9), needInt(99)));
            } else if (word.equals("reader")) {
                if (text.readers.size() >= 6) {
                    room.add(new Fault(2, place));
                }
                at++;
                text.readers.add(new Reader(needName(), needInt(9), needInt(9), needInt(9)));
            } else if (LAWS.contains(word)) {
                at++;
                need("=");
                text.laws.put(word, readLaw(0));
            } else if (word.equals("turns")) {
                at++;
                text.turns = needInt(99);
            } else if (word.equals("wet")) {
                at++;
                text.wet = needInt(100);
            } else if (word.equals("seed")) {
                at++;
                text.seed = needInt(9999);
            } else {
                throw syntax();
            }
            need(";");
        }

        Term readLaw(int ifs) {
            if (!peek().equals("if")) {
                return readSum(0);
            }
            if (ifs >= 4) {
                room.add(new Fault(2, herePlace()));
            }
            at++;
            Term left = readSum(0);
            need("<");
            Term right = readSum(0);
            need("then");
            Term chosen = readSum(0);
            need("else");
            Term rest = readLaw(ifs + 1);
            return v -> left.of(v) < right.of(v) ? chosen.of(v) : rest.of(v);
        }

        Term readSum(int nested) {
            Term sum = readProduct(nested);
            while (peek().equals("+") || peek().equals("-")) {
                boolean plus = peek().equals("+");
                at++;
                Term left = sum;
                Term right = readProduct(nested);
                sum = plus ? v -> left.of(v) + right.of(v) : v -> left.of(v) - right.of(v);
            }
            return sum;
        }

        Term readProduct(int nested) {
            Term product = readUnit(nested);
            while (peek().equals("*") || peek().equals("/")) {
                boolean times = peek().equals("*");
                at++;
                Term left = product;
                Term right = readUnit(nested);
                product = times ? v -> left.of(v) * right.of(v) : v -> divided(left.of(v), right.of(v));
            }
            return product;
        }

        static int divided(int a, int b) {
            if (b == 0) {
                throw new DividedByZero();
            }
            return (int) ((long) a / b);
        }

        Term readUnit(int nested) {
            String word = peek();
            if (word.equals("(")) {
                if (nested >= 6) {
                    room.add(new Fault(2, herePlace()));
                }
                at++;
                Term inside = readSum(nested + 1);
                need(")");
                return inside;
            }
            if (VARS.contains(word)) {
                at++;
                return v -> v.get(word);
            }
            int value = needInt(9999);
            return v -> value;
        }
    }

    // ---- what goes on ----

    enum Where { TO_COME, SHELF, READER, BURNT }

    static final class World {
        int day;
        Where[] where = new Where[0];
        int[] sentBack = new int[0];
        int[] want = new int[0];
        int[] has = new int[0];
        int[] had = new int[0];

        static World of(Text text) {
            World w = new World();
            w.where = new Where[text.letters.size()];
            Arrays.fill(w.where, Where.TO_COME);
            w.sentBack = new int[text.letters.size()];
            w.want = text.readers.stream().mapToInt(Reader::want).toArray();
            w.has = new int[text.readers.size()];
            Arrays.fill(w.has, -2);
            w.had = new int[text.readers.size()];
            return w;
        }

        World copy() {
            World w = new World();
            w.day = day;
            w.where = where.clone();
            w.sentBack = sentBack.clone();
            w.want = want.clone();
            w.has = has.clone();
            w.had = had.clone();
            return w;
        }

        int readerOf(int letter) {
            for (int r = 0; r < has.length; r++) {
                if (has[r] == letter) {
                    return r;
                }
            }
            return -2;
        }
    }

    private final StringBuilder tape = new StringBuilder();
    private int faultPlace = NONE;
    private Text text = new Text();
    private World now = World.of(text);
    private Deque<World> past = new ArrayDeque<>();
    private World[] slots = new World[3];
    private final List<int[]> told = new ArrayList<>();

    private int law(String name, World w, int l, int r) {
        Letter letter = text.letters.get(l);
        Reader reader = text.readers.get(r);
        Map<String, Integer> vars = new HashMap<>();
        vars.put("apart", Math.abs(letter.want - w.want[r]));
        vars.put("hand", letter.hand);
        vars.put("grief", letter.grief);
        vars.put("taste", reader.taste);
        vars.put("patience", reader.patience);
        vars.put("age", w.day > letter.comes ? w.day - letter.comes : 0);
        vars.put("day", w.day);
        vars.put("which", r);
        vars.put("had", w.had[r]);
        return value(name, vars);
    }

    private int value(String name, Map<String, Integer> vars) {
        try {
            return text.laws.get(name).of(vars);
        } catch (DividedByZero e) {
            return 0;
        }
    }

    private int likes(World w, int l, int r) {
        return Math.min(99, Math.max(0, law("likes", w, l, r)));
    }

    private int rathers(World w, int l, int r) {
        return Math.min(99, Math.max(0, law("rathers", w, l, r)));
    }

    private boolean doesAnswer(int later, int earlier) {
        Letter a = text.letters.get(later);
        Letter b = text.letters.get(earlier);
        if (b.comes >= a.comes) {
            return false;
        }
        Map<String, Integer> vars = new HashMap<>();
        vars.put("apart", Math.abs(a.want - b.want));
        vars.put("hand", a.hand);
        vars.put("grief", a.grief);
        vars.put("taste", b.hand);
        vars.put("patience", b.grief);
        vars.put("age", a.comes - b.comes);
        vars.put("day", now.day);
        vars.put("which", later);
        vars.put("had", 0);
        return value("answers", vars) > 0;
    }

    static long lot(long n, long seed, long which) {
        long h = seed;
        for (long it : new long[] {149, which}) {
            h = ((h ^ it) * 1103515245L + 12345L) & 0xffffffffL;
            h = h ^ (h >> 15);
        }
        return (h >> 1) % n;
    }

    private void passDay(World w, int seed, int wet) {
        if (lot(100, seed, 4L * w.day) >= wet) {
            for (int l = 0; l < w.where.length; l++) {
                if (w.where[l] == Where.TO_COME && text.letters.get(l).comes <= w.day) {
                    w.where[l] = Where.SHELF;
                }
            }
        }
        World began = w.copy();
        for (int l = 0; l < w.where.length; l++) {
            int r = began.readerOf(l);
            if (r >= 0 && law("returns", began, l, r) > 0) {
                w.has[r] = -2;
                w.sentBack[l]++;
                w.where[l] = w.sentBack[l] == 2 ? Where.BURNT : Where.SHELF;
            }
        }
        for (int l = 0; l < w.where.length; l++) {
            if (w.where[l] != Where.SHELF) {
                continue;
            }
            int best = -2;
            for (int r = 0; r < w.has.length; r++) {
                boolean open = w.has[r] == -2 && likes(w, l, r) >= 1;
                if (open && (best == -2 || likes(w, l, r) > likes(w, l, best))) {
                    best = r;
                }
            }
            if (best >= 0) {
                give(w, l, best);
            }
        }
        if (text.turns > 0 && (w.day + 1) % text.turns == 0) {
            for (int r = 0; r < w.want.length; r++) {
                w.want[r] = w.want[r] == 9 ? 0 : w.want[r] + 1;
            }
        }
        w.day++;
    }

    private static void give(World w, int l, int r) {
        w.where[l] = Where.READER;
        w.has[r] = l;
        w.had[r]++;
    }

    private World ahead(int n, int seed, int wet) {
        World w = now.copy();
        for (int i = 0; i < n; i++) {
            passDay(w, seed, wet);
        }
        return w;
    }

    private boolean isLetter(int l) {
        return l >= 0 && l < text.letters.size();
    }

    private boolean isReader(int r) {
        return r >= 0 && r < text.readers.size();
    }

    private boolean isWith(int l) {
        return isLetter(l) && now.where[l] == Where.READER;
    }

    private boolean isShelved(int l) {
        return isLetter(l) && now.where[l] == Where.SHELF;
    }

    private void thingDone() {
        past.push(now.copy());
        if (past.size() > 40) {
            past.removeLast();
        }
    }

    // ---- the promises ----

    int feed(int a, int b, int c, int d, int e) {
        if (tape.length() + 20 > 2000) {
            return NONE;
        }
        for (int word : new int[] {a, b, c, d, e}) {
            for (int i = 3; i >= 0; i--) {
                tape.append((char) (word >> 8 * i & 255));
            }
        }
        return tape.length();
    }

    int back(int n) {
        if (n < 0 || n > tape.length()) {
            return NONE;
        }
        tape.setLength(tape.length() - n);
        return tape.length();
    }

    int read() {
        Reading reading = new Reading(tape.toString());
        tape.setLength(0);
        try {
            reading.read();
        } catch (Fault fault) {
            faultPlace = fault.place;
            return fault.number;
        }
        faultPlace = NONE;
        text = reading.text;
        now = World.of(text);
        past.clear();
        told.clear();
        slots = new World[3];
        return 0;
    }

    int place() {
        return faultPlace;
    }

    int letter(int l, int what) {
        if (!isLetter(l)) {
            return NONE;
        }
        Letter letter = text.letters.get(l);
        return switch (what) {
            case 0 -> letter.hand;
            case 1 -> letter.want;
            case 2 -> letter.grief;
            case 3 -> letter.comes;
            case 4 -> now.where[l].ordinal();
            case 5 -> now.readerOf(l);
            case 6 -> now.sentBack[l];
            case 7 -> now.day < letter.comes ? 0 : now.day - letter.comes;
            default -> NONE;
        };
    }

    int reader(int r, int what) {
        if (!isReader(r)) {
            return NONE;
        }
        return switch (what) {
            case 0 -> now.want[r];
            case 1 -> text.readers.get(r).taste;
            case 2 -> text.readers.get(r).patience;
            case 3 -> now.has[r];
            case 4 -> now.had[r];
            default -> NONE;
        };
    }

    int tells(int l, int r, int what) {
        if (!isLetter(l) || !isReader(r)) {
            return NONE;
        }
        return switch (what) {
            case 0 -> likes(now, l, r);
            case 1 -> rathers(now, l, r);
            case 2 -> law("returns", now, l, r) > 0 ? 1 : 0;
            default -> NONE;
        };
    }

    int answers(int l, int other) {
        if (!isLetter(l) || !isLetter(other) || text.letters.get(other).comes >= text.letters.get(l).comes) {
            return NONE;
        }
        return doesAnswer(l, other) ? 1 : 0;
    }

    boolean send(int l, int r) {
        if (!isShelved(l) || !isReader(r) || now.has[r] != -2) {
            return false;
        }
        thingDone();
        give(now, l, r);
        return true;
    }

    boolean takeBack(int l) {
        if (!isWith(l)) {
            return false;
        }
        thingDone();
        now.has[now.readerOf(l)] = -2;
        now.where[l] = Where.SHELF;
        return true;
    }

    boolean burn(int l) {
        if (!isShelved(l)) {
            return false;
        }
        thingDone();
        now.where[l] = Where.BURNT;
        return true;
    }

    int days(int n) {
        if (n < 0 || n > 60) {
            return NONE;
        }
        if (n > 0) {
            thingDone();
            now = ahead(n, text.seed, text.wet);
        }
        return now.day;
    }

    boolean undo() {
        if (past.isEmpty()) {
            return false;
        }
        now = past.pop();
        return true;
    }

    /** All dealings, the lowest first; a later one takes its place only if it is liked more. */
    private void dealAll(int l, int[] whom, int sum, int[] best, int[] bestSum) {
        if (l == whom.length) {
            if (sum > bestSum[0]) {
                bestSum[0] = sum;
                System.arraycopy(whom, 0, best, 0, whom.length);
            }
            return;
        }
        if (now.where[l] == Where.SHELF) {
            for (int r = 0; r < now.has.length; r++) {
                int candidate = r;
                boolean taken = now.has[r] != -2 || Arrays.stream(whom, 0, l).anyMatch(x -> x == candidate);
                if (!taken && likes(now, l, r) > 0) {
                    whom[l] = r;
                    dealAll(l + 1, whom, sum + likes(now, l, r), best, bestSum);
                }
            }
        }
        whom[l] = -2;
        dealAll(l + 1, whom, sum, best, bestSum);
    }

    int dealt(int i) {
        if (i != NONE && !isLetter(i)) {
            return NONE;
        }
        int[] best = new int[text.letters.size()];
        int[] bestSum = {-1};
        dealAll(0, new int[best.length], 0, best, bestSum);
        return i == NONE ? bestSum[0] : best[i];
    }

    /** In rounds: all that nobody keeps ask at once, and each reader keeps the best of all who asked. */
    int stable(int letter) {
        if (!isLetter(letter)) {
            return NONE;
        }
        List<List<Integer>> lists = new ArrayList<>();
        for (int l = 0; l < text.letters.size(); l++) {
            List<Integer> list = new ArrayList<>();
            for (int r = 0; r < text.readers.size() && isShelved(l); r++) {
                if (now.has[r] == -2 && likes(now, l, r) > 0) {
                    list.add(r);
                }
            }
            int asker = l;
            list.sort(Comparator.comparingInt(r -> -rathers(now, asker, r)));
            lists.add(list);
        }
        while (true) {
            List<List<Integer>> asked = new ArrayList<>();
            for (int r = 0; r < text.readers.size(); r++) {
                List<Integer> askers = new ArrayList<>();
                for (int l = 0; l < lists.size(); l++) {
                    if (!lists.get(l).isEmpty() && lists.get(l).get(0) == r) {
                        askers.add(l);
                    }
                }
                int reader = r;
                askers.sort(Comparator.comparingInt(l -> -likes(now, l, reader)));
                asked.add(askers);
            }
            boolean calm = true;
            for (List<Integer> askers : asked) {
                for (int i = 1; i < askers.size(); i++) {
                    lists.get(askers.get(i)).remove(0);
                    calm = false;
                }
            }
            if (calm) {
                return lists.get(letter).isEmpty() ? -2 : lists.get(letter).get(0);
            }
        }
    }

    int uneasy(int what) {
        List<Integer> pairs = new ArrayList<>();
        for (int l = 0; l < text.letters.size(); l++) {
            int own = now.readerOf(l);
            for (int r = 0; r < text.readers.size() && own >= 0; r++) {
                int liked = now.has[r] == -2 ? 0 : likes(now, now.has[r], r);
                if (r != own && rathers(now, l, r) > rathers(now, l, own) && likes(now, l, r) > liked) {
                    pairs.add(10 * l + r);
                }
            }
        }
        return what == 0 ? pairs.size() : what == 1 ? pairs.isEmpty() ? -2 : pairs.get(0) : NONE;
    }

    int favourite(int r, int what) {
        if (!isReader(r) || what != 0 && what != 1) {
            return NONE;
        }
        int best = -2;
        for (int l = text.letters.size() - 1; l >= 0; l--) {
            if (now.where[l] != Where.BURNT && (best == -2 || likes(now, l, r) >= likes(now, best, r))) {
                best = l;
            }
        }
        return best == -2 || what == 0 ? best : likes(now, best, r);
    }

    int crowd(int l, int v) {
        if (!isLetter(l) || v < 1 || v > 99) {
            return NONE;
        }
        int bits = 0;
        for (int r = 0; r < text.readers.size(); r++) {
            bits += likes(now, l, r) >= v ? 1 << r : 0;
        }
        return bits;
    }

    private void chains(List<Integer> row, List<Integer> longest) {
        if (row.size() > longest.size()) {
            longest.clear();
            longest.addAll(row);
        }
        for (int l = 0; l < text.letters.size(); l++) {
            boolean goesOn = row.isEmpty() || doesAnswer(l, row.get(row.size() - 1));
            if (now.where[l] != Where.BURNT && goesOn) {
                row.add(l);
                chains(row, longest);
                row.remove(row.size() - 1);
            }
        }
    }

    int chain(int i) {
        List<Integer> longest = new ArrayList<>();
        chains(new ArrayList<>(), longest);
        if (i == NONE) {
            return longest.size();
        }
        return i >= 0 && i < longest.size() ? longest.get(i) : NONE;
    }

    int bundle(int l) {
        if (!isLetter(l)) {
            return NONE;
        }
        Set<Integer> seen = new HashSet<>(Set.of(l));
        Deque<Integer> open = new ArrayDeque<>(seen);
        while (!open.isEmpty()) {
            int one = open.pop();
            for (int other = 0; other < text.letters.size(); other++) {
                if ((doesAnswer(one, other) || doesAnswer(other, one)) && seen.add(other)) {
                    open.push(other);
                }
            }
        }
        return seen.stream().mapToInt(x -> 1 << x).sum();
    }

    private int mostShelved(int r) {
        int most = 0;
        for (int l = 0; l < text.letters.size(); l++) {
            most = isShelved(l) ? Math.max(most, likes(now, l, r)) : most;
        }
        return most;
    }

    int keep(int l) {
        return isWith(l) ? likes(now, l, now.readerOf(l)) - mostShelved(now.readerOf(l)) : -100000;
    }

    int barren() {
        int bits = 0;
        for (int r = 0; r < text.readers.size(); r++) {
            bits += mostShelved(r) > 0 ? 0 : 1 << r;
        }
        return bits;
    }

    int change(int l, int other) {
        if (!isWith(l) || !isWith(other) || l == other) {
            return -100000;
        }
        int r = now.readerOf(l);
        int s = now.readerOf(other);
        return likes(now, l, s) + likes(now, other, r) - likes(now, l, r) - likes(now, other, s);
    }

    int changeBest(int what) {
        int best = -2;
        for (int pair = 76; pair >= 0; pair--) {
            int l = pair / 10;
            int other = pair % 10;
            int gain = l < other ? change(l, other) : 0;
            if (gain > 0 && (best == -2 || gain >= change(best / 10, best % 10))) {
                best = pair;
            }
        }
        if (what != 0 && what != 1) {
            return NONE;
        }
        return best == -2 || what == 0 ? best : change(best / 10, best % 10);
    }

    private static boolean isSpan(int n) {
        return n >= 0 && n <= 60;
    }

    int waiting(int n) {
        if (!isSpan(n)) {
            return NONE;
        }
        return (int) Arrays.stream(ahead(n, 0, 0).where).filter(w -> w == Where.SHELF).count();
    }

    int first() {
        int before = Arrays.stream(now.sentBack).sum();
        World w = now.copy();
        for (int n = 1; n <= 60; n++) {
            passDay(w, 0, 0);
            if (Arrays.stream(w.sentBack).sum() != before) {
                return n;
            }
        }
        return -2;
    }

    int then(int l, int n, int what) {
        if (!isLetter(l) || !isSpan(n) || what != 0 && what != 1) {
            return NONE;
        }
        World w = ahead(n, text.seed, text.wet);
        return what == 0 ? w.where[l].ordinal() : w.readerOf(l);
    }

    int readerIn(int r, int n, int what) {
        if (!isReader(r) || !isSpan(n) || what != 0 && what != 1) {
            return NONE;
        }
        World w = ahead(n, text.seed, text.wet);
        return what == 0 ? w.has[r] : w.want[r];
    }

    private int liked(World w) {
        int sum = 0;
        for (int r = 0; r < w.has.length; r++) {
            sum += w.has[r] == -2 ? 0 : likes(w, w.has[r], r);
        }
        return sum;
    }

    int likedIn(int n) {
        return isSpan(n) ? liked(ahead(n, text.seed, text.wet)) : NONE;
    }

    int year(int l, int n, int s) {
        if (!isLetter(l) || !isSpan(n) || s < 1 || s > 20) {
            return NONE;
        }
        int times = 0;
        for (int seed = text.seed; seed < text.seed + s; seed++) {
            times += ahead(n, seed, text.wet).where[l] == Where.READER ? 1 : 0;
        }
        return times;
    }

    int search(int l, int i) {
        if (!isLetter(l) || !isReader(i)) {
            return NONE;
        }
        List<Integer> order = new ArrayList<>();
        for (int r = 0; r < text.readers.size(); r++) {
            order.add(r);
        }
        // 2520 is a multiple of all that a drawer can take, so these are exact.
        order.sort(Comparator.comparingInt(r -> -2520 / (text.readers.get(r).patience + 1) * likes(now, l, r)));
        return order.get(i);
    }

    int tell(int mark, int v, boolean so) {
        if (mark < 0 || mark > 2 || v < 0 || v > 9 || told.size() == 20) {
            return NONE;
        }
        told.add(new int[] {mark, v, so ? 1 : 0});
        return told.size() - 1;
    }

    int forget() {
        int size = told.size();
        told.clear();
        return size;
    }

    private int mark(int l, int mark) {
        Letter letter = text.letters.get(l);
        return mark == 0 ? letter.hand : mark == 1 ? letter.want : letter.grief;
    }

    private List<Integer> left(List<int[]> known) {
        List<Integer> left = new ArrayList<>();
        for (int l = 0; l < text.letters.size(); l++) {
            int letter = l;
            if (known.stream().allMatch(t -> mark(letter, t[0]) >= t[1] == (t[2] == 1))) {
                left.add(l);
            }
        }
        return left;
    }

    int which(int k, int what) {
        if (k < 0 || k > told.size() || what != 0 && what != 1) {
            return NONE;
        }
        List<Integer> left = left(told.subList(0, k));
        return what == 0 ? left.size() : left.stream().mapToInt(l -> 1 << l).sum();
    }

    int next(int k) {
        if (k < 0 || k > told.size()) {
            return NONE;
        }
        int best = -2;
        int fewest = 100;
        for (int question = 1; question <= 29 && which(k, 0) > 0; question++) {
            if (question % 10 == 0) {
                continue;
            }
            int worst = 0;
            for (int so = 0; so < 2; so++) {
                List<int[]> known = new ArrayList<>(told.subList(0, k));
                known.add(new int[] {question / 10, question % 10, so});
                worst = Math.max(worst, left(known).size());
            }
            if (worst < fewest) {
                fewest = worst;
                best = question;
            }
        }
        return best;
    }

    boolean hold(int slot) {
        if (slot < 0 || slot > 2) {
            return false;
        }
        slots[slot] = now.copy();
        return true;
    }

    boolean restore(int slot) {
        if (slot < 0 || slot > 2 || slots[slot] == null) {
            return false;
        }
        now = slots[slot].copy();
        past.clear();
        return true;
    }

    int count(int what) {
        int bits = 0;
        for (int l = 0; l < now.where.length; l++) {
            bits += what >= 3 && now.where[l].ordinal() == what - 3 ? 1 << l : 0;
        }
        int free = 0;
        for (int r = 0; r < now.has.length; r++) {
            free += now.has[r] == -2 ? 1 << r : 0;
        }
        return switch (what) {
            case 0 -> text.letters.size();
            case 1 -> text.readers.size();
            case 2 -> now.day;
            case 3, 4, 5, 6 -> bits;
            case 7 -> liked(now);
            case 8 -> tape.length();
            case 9 -> past.size();
            case 10 -> told.size();
            case 11 -> (int) Arrays.stream(slots).filter(s -> s != null).count();
            case 12 -> lot(100, text.seed, 4L * now.day) < text.wet ? 1 : 0;
            case 13 -> Arrays.stream(now.sentBack).sum();
            case 14 -> Arrays.stream(now.had).sum();
            case 15 -> free;
            default -> NONE;
        };
    }
}
