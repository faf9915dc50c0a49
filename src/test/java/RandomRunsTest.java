import java.util.Random;

/** Runs of random texts and calls, the same each time, on a drawer and on the model side by side. */
public final class RandomRunsTest {
    private static final String[] VARS = {"apart", "hand", "grief", "taste", "patience", "age", "day", "which", "had"};
    private static final String[] WORDS = {"letter", "reader", "likes", "rathers", "returns", "answers", "turns",
        "wet", "seed", "if", "then", "else", "apart", "had", "abc", "lettera", "abcdefgh", "abcdefghi", "0", "7",
        "12345", "9999", "100", ";", "=", "+", "-", "*", "/", "<", "(", ")", "?", "A", "\u0000", "\u00e9", "\t"};

    private final Random random;
    private final Check check;
    private final HopeDrawer drawer = new HopeDrawer();
    private final Model model = new Model();
    private final StringBuilder log = new StringBuilder();

    private RandomRunsTest(long seed, Check check) {
        random = new Random(seed);
        this.check = check;
    }

    public static void main(String[] args) {
        int runs = args.length > 0 ? Integer.parseInt(args[0]) : 1500;
        long from = args.length > 1 ? Long.parseLong(args[1]) : 0;
        Check check = new Check("RandomRunsTest");
        for (int run = 0; run < runs && !check.hasFailed(); run++) {
            new RandomRunsTest(from + run, check).run(from + run);
        }
        check.end();
    }

    private void run(long seed) {
        tellText();
        int calls = 20 + random.nextInt(200);
        for (int i = 0; i < calls && !check.hasFailed(); i++) {
            if (random.nextInt(60) == 0) {
                tellText();
            } else {
                oneCall();
            }
        }
        if (check.hasFailed()) {
            System.out.println("run " + seed + ":\n" + log);
        }
    }

    // ---- texts ----

    private void tellText() {
        String text = someText();
        if (text.length() > 2000) {
            text = text.substring(0, 2000);
        }
        log.append("text: ").append(text).append('\n');
        due("back all", drawer.back(drawer.count(8)), model.back(model.count(8)));
        for (int at = 0; at < text.length(); at += 20) {
            int[] w = new int[5];
            for (int i = 0; i < 20; i++) {
                w[i / 4] = w[i / 4] << 8 | (at + i < text.length() ? text.charAt(at + i) & 255 : 32);
            }
            due("feed", drawer.feed(w[0], w[1], w[2], w[3], w[4]), model.feed(w[0], w[1], w[2], w[3], w[4]));
        }
        int padding = (20 - text.length() % 20) % 20;
        due("back", drawer.back(padding), model.back(padding));
        due("read", drawer.read(), model.read());
        due("place", drawer.place(), model.place());
    }

    private String someText() {
        int kind = random.nextInt(20);
        String text = goodText(kind < 17 ? 0 : 8);
        if (kind == 15 || kind == 16) {
            text = spoilt(text);
        }
        if (kind == 19) {
            StringBuilder words = new StringBuilder();
            for (int i = random.nextInt(12); i > 0; i--) {
                words.append(WORDS[random.nextInt(WORDS.length)]).append(random.nextBoolean() ? " " : "");
            }
            text = random.nextBoolean() ? words.toString() : text + words;
        }
        if (kind == 18) {
            text = text + "likes=" + "1+".repeat(random.nextInt(220)) + "(".repeat(random.nextInt(9)) + "1"
                + ")".repeat(random.nextInt(8)) + ";";
        }
        return text;
    }

    private String spoilt(String text) {
        if (text.isEmpty()) {
            return "?";
        }
        int at = random.nextInt(text.length());
        switch (random.nextInt(4)) {
            case 0:
                return text.substring(0, at);
            case 1:
                return text.substring(0, at) + text.substring(at + 1);
            case 2:
                return text.substring(0, at) + WORDS[random.nextInt(WORDS.length)] + text.substring(at);
            default:
                int second = random.nextInt(text.length());
                return text.substring(0, Math.max(at, second)) + text.substring(Math.min(at, second));
        }
    }

    /** Out of a hundred, so many numbers, names or amounts are wrong. */
    private String goodText(int wrong) {
        int letters = random.nextInt(8);
        int readers = random.nextInt(7);
        if (random.nextInt(100) < wrong * 3) {
            letters += random.nextInt(3);
            readers += random.nextInt(3);
        }
        int latest = random.nextBoolean() ? 3 : 1 + random.nextInt(99);
        StringBuilder text = new StringBuilder();
        for (int i = 0; i < letters + readers; i++) {
            boolean letter = i < letters;
            text.append(letter ? "letter " : "reader ").append(name(i, wrong)).append(blank());
            for (int field = 0; field < 3; field++) {
                text.append(number(9, wrong)).append(blank());
            }
            text.append(letter ? number(latest, wrong) : "").append(";");
            tellOther(text, wrong);
        }
        return text.toString();
    }

    private String name(int i, int wrong) {
        int number = random.nextInt(100) < wrong ? random.nextInt(4) : i;
        return number % 3 == 0 ? "longname".substring(0, 7) + (char) ('a' + number) : "n" + (char) ('a' + number);
    }

    private String blank() {
        return random.nextInt(10) == 0 ? "\n\t " : " ";
    }

    private int number(int most, int wrong) {
        return random.nextInt(100) < wrong ? random.nextInt(400) : random.nextInt(most + 1);
    }

    private void tellOther(StringBuilder text, int wrong) {
        switch (random.nextInt(16)) {
            case 0:
            case 1:
                text.append("likes").append(law(wrong));
                break;
            case 2:
                text.append("rathers").append(law(wrong));
                break;
            case 3:
                text.append("returns").append(random.nextBoolean() ? law(wrong) : "=age-" + random.nextInt(6) + ";");
                break;
            case 4:
                text.append("answers").append(law(wrong));
                break;
            case 5:
                text.append("turns ").append(number(9, wrong)).append(";");
                break;
            case 6:
                text.append("wet ").append(number(100, wrong)).append(";");
                break;
            case 7:
                text.append("seed ").append(random.nextInt(10000)).append(";");
                break;
            default:
                break;
        }
    }

    private String law(int wrong) {
        StringBuilder law = new StringBuilder("=");
        int ifs = random.nextInt(3) == 0 ? random.nextInt(wrong > 0 ? 7 : 5) : 0;
        for (int i = 0; i < ifs; i++) {
            law.append("if ").append(sum(1)).append("<").append(sum(1)).append(" then ").append(sum(1)).append(" else ");
        }
        return law.append(sum(2)).append(";").toString();
    }

    private String sum(int deep) {
        StringBuilder sum = new StringBuilder(unit(deep));
        for (int i = random.nextInt(4); i > 0; i--) {
            String signs = "++--*/";
            sum.append(signs.charAt(random.nextInt(signs.length()))).append(unit(deep));
        }
        return sum.toString();
    }

    private String unit(int deep) {
        int kind = random.nextInt(10);
        if (kind < 5) {
            return VARS[random.nextInt(VARS.length)];
        }
        if (kind < 8 || deep == 0) {
            return Integer.toString(random.nextInt(10) == 0 ? random.nextInt(10000) : random.nextInt(12));
        }
        return "(" + sum(deep - 1) + ")";
    }

    // ---- calls ----

    private void due(String call, long got, long want) {
        log.append(call).append(" -> ").append(got).append('\n');
        check.due(call, got, want);
    }

    private void due(String call, boolean got, boolean want) {
        due(call, got ? 1 : 0, want ? 1 : 0);
    }

    private int small(int below) {
        return random.nextInt(30) == 0 ? wild() : random.nextInt(below);
    }

    private int wild() {
        int[] wild = {-1, -2, -3, 7, 6, 8, 61, 60, 100, Integer.MAX_VALUE, Integer.MIN_VALUE, 31, 32, 33};
        return wild[random.nextInt(wild.length)];
    }

    private int someDays() {
        return random.nextInt(4) == 0 ? small(61) : small(6);
    }

    private void oneCall() {
        int kind = random.nextInt(40);
        int l = small(7);
        int o = small(7);
        int r = small(6);
        int n = someDays();
        int w = small(3);
        switch (kind) {
            case 0: due("letter " + l + " " + o, drawer.letter(l, o), model.letter(l, o)); break;
            case 1: due("reader " + r + " " + o, drawer.reader(r, o), model.reader(r, o)); break;
            case 2: due("tells " + l + " " + r + " " + w, drawer.tells(l, r, w), model.tells(l, r, w)); break;
            case 3: due("answers " + l + " " + o, drawer.answers(l, o), model.answers(l, o)); break;
            case 4: due("send " + l + " " + r, drawer.send(l, r), model.send(l, r)); break;
            case 5: due("takeBack " + l, drawer.takeBack(l), model.takeBack(l)); break;
            case 6: due("forget count", drawer.count(10), model.count(10)); break;
            default: moreCalls(kind, l, o, r, n, w); break;
        }
        due("count 6", drawer.count(6), model.count(6));
    }

    private void moreCalls(int kind, int l, int o, int r, int n, int w) {
        switch (kind) {
            case 7:
            case 8: due("days " + n, drawer.days(n), model.days(n)); break;
            case 9: due("undo", drawer.undo(), model.undo()); break;
            case 10: due("dealt " + (l - 1), drawer.dealt(l - 1), model.dealt(l - 1)); break;
            case 11: due("stable " + l, drawer.stable(l), model.stable(l)); break;
            case 12: due("uneasy " + w, drawer.uneasy(w), model.uneasy(w)); break;
            case 13: due("favourite " + r + " " + w, drawer.favourite(r, w), model.favourite(r, w)); break;
            case 14: crowd(l); break;
            case 15: due("chain " + (l - 1), drawer.chain(l - 1), model.chain(l - 1)); break;
            case 16: due("bundle " + l, drawer.bundle(l), model.bundle(l)); break;
            case 17: due("keep " + l, drawer.keep(l), model.keep(l)); break;
            case 18: due("barren", drawer.barren(), model.barren()); break;
            case 19: due("change " + l + " " + o, drawer.change(l, o), model.change(l, o)); break;
            case 20: due("changeBest " + w, drawer.changeBest(w), model.changeBest(w)); break;
            case 21: due("waiting " + n, drawer.waiting(n), model.waiting(n)); break;
            case 22: due("first", drawer.first(), model.first()); break;
            case 23: due("then " + l + " " + n + " " + w, drawer.then(l, n, w), model.then(l, n, w)); break;
            case 24: due("readerIn " + r + " " + n + " " + w, drawer.readerIn(r, n, w), model.readerIn(r, n, w)); break;
            case 25: due("likedIn " + n, drawer.likedIn(n), model.likedIn(n)); break;
            case 26: year(l, n); break;
            case 27: due("search " + l + " " + r, drawer.search(l, r), model.search(l, r)); break;
            case 28:
            case 29: tell(w); break;
            case 30: forget(); break;
            case 31: due("which " + l + " " + w, drawer.which(l, w), model.which(l, w)); break;
            case 32: due("next " + l, drawer.next(l), model.next(l)); break;
            case 33: due("hold " + w, drawer.hold(w), model.hold(w)); break;
            case 34: restore(w); break;
            case 35: burn(l); break;
            case 36: everyCount(); break;
            default: everyLetter(); break;
        }
    }

    private void crowd(int l) {
        int v = random.nextInt(5) == 0 ? random.nextInt(102) : random.nextInt(12);
        due("crowd " + l + " " + v, drawer.crowd(l, v), model.crowd(l, v));
    }

    private void year(int l, int n) {
        int s = small(22);
        due("year " + l + " " + n + " " + s, drawer.year(l, n, s), model.year(l, n, s));
    }

    private void tell(int mark) {
        int v = small(10);
        boolean so = random.nextBoolean();
        due("tell " + mark + " " + v + " " + so, drawer.tell(mark, v, so), model.tell(mark, v, so));
    }

    private void forget() {
        if (random.nextInt(4) == 0) {
            due("forget", drawer.forget(), model.forget());
        }
    }

    private void restore(int slot) {
        if (random.nextInt(2) == 0) {
            due("restore " + slot, drawer.restore(slot), model.restore(slot));
        }
    }

    private void burn(int l) {
        if (random.nextInt(3) == 0) {
            due("burn " + l, drawer.burn(l), model.burn(l));
        }
    }

    private void everyCount() {
        for (int what = -2; what <= 17; what++) {
            due("count " + what, drawer.count(what), model.count(what));
        }
    }

    private void everyLetter() {
        for (int l = 0; l < 7; l++) {
            due("letter " + l + " 5", drawer.letter(l, 5), model.letter(l, 5));
            due("dealt " + l, drawer.dealt(l), model.dealt(l));
            due("stable " + l, drawer.stable(l), model.stable(l));
        }
    }
}
