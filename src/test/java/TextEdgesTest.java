/** The sentences of 'Terms', I, and of promises 1 to 5 that name a boundary case, a test each. */
public final class TextEdgesTest {
    private static final Sentences S = new Sentences("TextEdgesTest");
    private static final String[] WORDS = {"letter", "reader", "likes", "rathers", "returns", "answers", "turns", "wet",
        "seed", "if", "then", "else", "apart", "hand", "grief", "taste", "patience", "age", "day", "which", "had"};
    private static final String IF = "if 1<2 then 3 else ";

    public static void main(String[] args) {
        tape();
        tokens();
        grammar();
        limits();
        notTold();
        faults();
        faultless();
        S.end(1, 5);
    }

    private static void fault(String text, int number, int place) {
        HopeDrawer x = new HopeDrawer();
        Check.feed(x, text);
        S.due("read of <" + text + ">", x.read(), number);
        S.due("place of <" + text + ">", x.place(), place);
    }

    private static void fine(String text) {
        fault(text, 0, -1);
    }

    /** The text up to the mark ^ is fine so far, and the fault is there. */
    private static void faultAtMark(int number, String text) {
        int place = text.indexOf('^');
        fault(text.substring(0, place) + text.substring(place + 1), number, place);
    }

    private static void syntaxAtMark(String text) {
        faultAtMark(1, text);
    }

    private static String letters(int n) {
        StringBuilder text = new StringBuilder();
        for (int i = 0; i < n; i++) {
            text.append("letter l").append((char) ('a' + i)).append(" 1 1 1 1;");
        }
        return text.toString();
    }

    private static String readers(int n) {
        StringBuilder text = new StringBuilder();
        for (int i = 0; i < n; i++) {
            text.append("reader r").append((char) ('a' + i)).append(" 1 1 1;");
        }
        return text.toString();
    }

    // ---- promises 1 to 5 ----

    private static void tape() {
        S.holds("What it is", "An object is used for at most 512 calls after it has been made", TextEdgesTest::manyCalls);
        S.holds("Promise 1", "No LETTERS, no READERS.", TextEdgesTest::newObject);
        S.holds("Promise 2", "Twenty bytes, the highest of a first, come behind the tape: how many it has.",
            TextEdgesTest::feedOrder);
        S.holds("Promise 2", "NONE, and nothing comes, if it would have more than 2,000.", TextEdgesTest::feedTooMany);
        S.holds("Promise 3", "The last n bytes of the tape go: how many it has.", TextEdgesTest::backLast);
        S.holds("Promise 3", "NONE, and nothing goes, if it has not so many", TextEdgesTest::backTooMany);
        S.holds("Promise 3", "or n is below 0.", TextEdgesTest::backBelowNone);
        S.holds("Promise 4", "The tape, which is empty then, is read: 0, or the number of its FAULT.",
            TextEdgesTest::readEmpties);
        S.holds("Promise 5", "The byte of the latest read()'s FAULT", TextEdgesTest::placeOfLatest);
        S.holds("Promise 5", "NONE without.", TextEdgesTest::placeWithout);
    }

    private static void newObject() {
        HopeDrawer x = new HopeDrawer();
        for (int what = 0; what <= 15; what++) {
            S.due("count " + what, x.count(what), 0);
        }
        for (int what = 0; what <= 7; what++) {
            S.due("letter 0 " + what, x.letter(0, what), -1);
            S.due("reader 0 " + what, x.reader(0, what), -1);
        }
        S.due("which", x.which(0, 1), 0);
        S.due("dealt", x.dealt(-1), 0);
        S.due("barren", x.barren(), 0);
        S.due("a day goes by", x.days(1), 1);
        S.due("nothing came", x.count(3) + x.count(4) + x.count(5) + x.count(6), 0);
    }

    private static void manyCalls() {
        HopeDrawer x = new HopeDrawer();
        for (int call = 1; call < 512; call++) {
            S.due("call " + call, x.days(60), 60 * call);
        }
        S.due("the 512th call", x.count(2), 60 * 511);
        HopeDrawer y = new HopeDrawer();
        for (int round = 0; round < 128; round++) {
            S.due("feed", y.feed(0x77657420, 0x3130303b, 0x20202020, 0x20202020, 0x20202020), 20);
            S.due("read " + round, y.read(), 0);
            S.due("wet", y.count(12), 1);
            S.due("place", y.place(), -1);
        }
    }

    private static void feedOrder() {
        // A byte that is no TOKEN, at each of the twenty places in turn, stands where it was put.
        for (int place = 0; place < 20; place++) {
            int[] words = {0x20202020, 0x20202020, 0x20202020, 0x20202020, 0x20202020};
            int shift = 24 - place % 4 * 8;
            words[place / 4] = words[place / 4] & ~(255 << shift) | 0xff << shift;
            HopeDrawer x = new HopeDrawer();
            S.due("feed", x.feed(words[0], words[1], words[2], words[3], words[4]), 20);
            S.due("read", x.read(), 1);
            S.due("place", x.place(), place);
        }
        HopeDrawer y = new HopeDrawer();
        Check.feed(y, "turns 1; wet 10");
        S.due("feed behind fifteen", y.feed(0x303b2020, 0x20202020, 0x20202020, 0x20202020, 0x20202020), 35);
        S.due("wet 100", y.read(), 0);
        S.due("it is wet", y.count(12), 1);
    }

    private static void feedTooMany() {
        HopeDrawer x = new HopeDrawer();
        Check.feed(x, "turns 5;            ");
        for (int i = 2; i <= 100; i++) {
            S.due("feed " + i, x.feed(0x20202020, 0x20202020, 0x20202020, 0x20202020, 0x20202020), 20 * i);
        }
        S.due("feed at 2,000", x.feed(-1, -1, -1, -1, -1), -1);
        S.due("as many as ahead", x.count(8), 2000);
        S.due("back 19", x.back(19), 1981);
        S.due("feed at 1,981", x.feed(-1, -1, -1, -1, -1), -1);
        S.due("as many as ahead of that", x.count(8), 1981);
        S.due("back 1", x.back(1), 1980);
        S.due("feed at 1,980", x.feed(0x20202020, 0x20202020, 0x20202020, 0x20202020, 0x20202020), 2000);
        S.due("no strange byte came", x.read(), 0);
    }

    private static void backLast() {
        HopeDrawer x = new HopeDrawer();
        S.due("0 of an empty tape", x.back(0), 0);
        Check.feed(x, "wet 1; wet 999999999");
        S.due("0 of twenty", x.back(0), 20);
        S.due("14 of twenty", x.back(14), 6);
        S.due("the first ones stay", x.read(), 0);
        Check.feed(x, "?");
        S.due("1 of one", x.back(1), 0);
        S.due("none is left", x.read(), 0);
        HopeDrawer y = new HopeDrawer();
        for (int i = 1; i <= 100; i++) {
            y.feed(0, 0, 0, 0, 0);
        }
        S.due("2,000 of 2,000", y.back(2000), 0);
    }

    private static void backTooMany() {
        HopeDrawer x = new HopeDrawer();
        S.due("1 of none", x.back(1), -1);
        S.due("the most of none", x.back(Integer.MAX_VALUE), -1);
        Check.feed(x, "wet 1;");
        S.due("7 of six", x.back(7), -1);
        S.due("the most of six", x.back(Integer.MAX_VALUE), -1);
        S.due("six are there", x.count(8), 6);
        S.due("as they were", x.read(), 0);
    }

    private static void backBelowNone() {
        HopeDrawer x = new HopeDrawer();
        S.due("-1 of none", x.back(-1), -1);
        Check.feed(x, "wet 1;");
        S.due("-1 of six", x.back(-1), -1);
        S.due("the least of six", x.back(Integer.MIN_VALUE), -1);
        S.due("six are there", x.count(8), 6);
    }

    private static void readEmpties() {
        HopeDrawer x = new HopeDrawer();
        S.due("an empty tape", x.read(), 0);
        Check.feed(x, letters(2));
        S.due("a fine one", x.read(), 0);
        S.due("empty behind it", x.count(8), 0);
        S.due("two letters", x.count(0), 2);
        Check.feed(x, "wet 1; ?");
        S.due("SYNTAX", x.read(), 1);
        S.due("empty behind SYNTAX", x.count(8), 0);
        Check.feed(x, letters(8));
        S.due("ROOM", x.read(), 2);
        S.due("empty behind ROOM", x.count(8), 0);
        Check.feed(x, letters(1) + letters(1));
        S.due("TWICE", x.read(), 3);
        S.due("empty behind TWICE", x.count(8), 0);
        Check.feed(x, "wet 101;");
        S.due("WRONG", x.read(), 5);
        S.due("empty behind WRONG", x.count(8), 0);
        S.due("still two letters", x.count(0), 2);
        S.due("an empty tape again", x.read(), 0);
        S.due("an empty text tells none", x.count(0), 0);
    }

    private static void placeOfLatest() {
        HopeDrawer x = new HopeDrawer();
        Check.feed(x, "?");
        x.read();
        S.due("the first byte", x.place(), 0);
        Check.feed(x, "wet 1; ?");
        S.due("still of the latest read", x.place(), 0);
        x.read();
        S.due("the eighth byte", x.place(), 7);
        S.due("asked again", x.place(), 7);
        x.days(1);
        x.undo();
        S.due("behind other calls", x.place(), 7);
        Check.feed(x, " ".repeat(1999) + "?");
        x.read();
        S.due("the last byte that can be", x.place(), 1999);
        Check.feed(x, " ".repeat(1994) + "letter");
        x.read();
        S.due("the end of the longest text", x.place(), 2000);
    }

    private static void placeWithout() {
        HopeDrawer x = new HopeDrawer();
        S.due("ahead of any read", x.place(), -1);
        Check.feed(x, "?");
        S.due("ahead of the first read", x.place(), -1);
        x.read();
        S.due("with one", x.place(), 0);
        x.read();
        S.due("behind an empty tape", x.place(), -1);
        Check.feed(x, "wet 101;");
        x.read();
        Check.feed(x, "wet 100;");
        x.read();
        S.due("behind a fine text", x.place(), -1);
    }

    // ---- TOKENS ----

    private static void tokens() {
        S.holds("Terms", "A TEXT has 2,000 bytes at most.", TextEdgesTest::longestText);
        S.holds("Terms", "TOKENS, the longest that can be", TextEdgesTest::longestTokens);
        S.holds("Terms", "with blanks (9, 10, 13, 32) between or not", TextEdgesTest::blanks);
        S.holds("Terms", "NAMES (letters a .. z, 8 at most", TextEdgesTest::names);
        S.holds("Terms", "none of the words in quotes)", TextEdgesTest::wordsAreNoNames);
        S.holds("Terms", "INTS (1 to 4 digits)", TextEdgesTest::ints);
        S.holds("Terms", "SIGNS ; = + - * / < ( ) .", TextEdgesTest::signs);
        S.holds("Terms", "A longer one, all else, is no TOKEN.", TextEdgesTest::noTokens);
    }

    private static void longestText() {
        HopeDrawer x = new HopeDrawer();
        Check.feed(x, "turns 1;" + " ".repeat(1984) + "wet 100;");
        S.due("2,000 bytes", x.count(8), 2000);
        S.due("are read", x.read(), 0);
        S.due("to the last", x.count(12), 1);
        fine(" ".repeat(2000));
        fault("a".repeat(2000), 1, 0);
        fault("wet " + "1".repeat(1996), 1, 4);
        fault(";".repeat(2000), 1, 0);
    }

    private static void longestTokens() {
        // Not 'letter' and 'a', nor 'if' and a name.
        syntaxAtMark("^lettera 1 1 1 1;");
        fine("letter ifa 1 1 1 1;");
        fine("letter letters 1 1 1 1;");
        HopeDrawer x = Check.drawerWith("turns 12; reader r 1 1 1;");
        x.days(2);
        S.due("12 is not 1 and 2", x.reader(0, 0), 1);
        x.days(10);
        S.due("but 12", x.reader(0, 0), 2);
        syntaxAtMark("turns 1 ^2;");
    }

    private static void blanks() {
        for (int blank : new int[] {9, 10, 13, 32}) {
            String b = String.valueOf((char) blank);
            fine("letter" + b + "a" + b + "1" + b + b + "1" + b + "1" + b + "1" + b + ";" + b);
            fine(b + "likes" + b + "=" + b + "(" + b + "1" + b + ")" + b + ";");
            fine(b);
        }
        for (int other : new int[] {0, 1, 8, 11, 12, 14, 31, 33, 127, 133, 160, 255}) {
            fault("wet" + (char) other + "1;", 1, 3);
            fault("wet 1;" + (char) other, 1, 6);
        }
        fine("letter a1 1 1 1;reader b1 1 1;likes=if 1<2then 3else(apart+1)*2;turns1;wet2;seed3;");
        fine("letter a1\t\r\n1 1 1;");
    }

    private static void names() {
        fine("letter a 1 1 1 1; letter z 1 1 1 1; reader az 1 1 1;");
        fine("letter abcdefgh 1 1 1 1; reader zyxwvuts 1 1 1;");
        syntaxAtMark("letter ^abcdefghi 1 1 1 1;");
        syntaxAtMark("reader ^abcdefghi 1 1 1;");
        for (int other : new int[] {'`', '{', '@', '[', 'A', 'Z', '_', '-', 225}) {
            fault("letter " + (char) other + " 1 1 1 1;", 1, 7);
            fault("letter a" + (char) other + " 1 1 1 1;", 1, 8);
        }
        syntaxAtMark("letter ^1 1 1 1 1;");
        syntaxAtMark("letter a1^b 1 1 1;");
    }

    private static void wordsAreNoNames() {
        for (String word : WORDS) {
            fault("letter " + word + " 1 1 1 1;", 1, 7);
            fault("reader " + word + " 1 1 1;", 1, 7);
            String shorter = word.substring(0, word.length() - 1);
            fine("letter " + shorter + " 1 1 1 1;");
            if (word.length() < 8) {
                fine("reader " + word + "z 1 1 1;");
            }
        }
    }

    private static void ints() {
        fine("seed 0; seed 9; seed 10; seed 999; seed 1000; seed 9999; seed 0000; seed 0009; likes = 9999;");
        syntaxAtMark("seed ^10000;");
        syntaxAtMark("seed ^00001;");
        syntaxAtMark("likes = ^12345;");
        syntaxAtMark("seed ^;");
        fault("seed 1:", 1, 6);
        HopeDrawer x = Check.drawerWith("letter a 0009 1 1 0012; reader r 1 1 1; likes = 0010 - 0003;");
        S.due("hand 0009", x.letter(0, 0), 9);
        S.due("comes 0012", x.letter(0, 3), 12);
        S.due("likes 0010 - 0003", x.tells(0, 0, 0), 7);
    }

    private static void signs() {
        fine("likes=((1+2)-3*4/5);rathers=if 1<2 then 3 else 4;");
        for (char other : ",.:!?%>&|^~'\"#$@[]{}\\_".toCharArray()) {
            fault("wet 1;" + other, 1, 6);
            fault("likes = 1 " + other + " 2;", 1, 10);
        }
        // Two signs without a blank are two.
        syntaxAtMark("likes =^= 1;");
        syntaxAtMark("likes = 1+^+2;");
        syntaxAtMark("likes = if 1<^<2 then 3 else 4;");
    }

    private static void noTokens() {
        // Were they cut, nine signs would be a NAME and another, five digits an INT and another.
        syntaxAtMark("letter ^abcdefghx 1 1 1 1;");
        syntaxAtMark("letter a ^12341 1 1;");
        syntaxAtMark("^lettersss a 1 1 1 1;");
        syntaxAtMark("likes = ^patiences;");
        for (int other = 128; other < 256; other++) {
            fault("wet 1; " + (char) other, 1, 7);
        }
        for (char other = 'A'; other <= 'Z'; other++) {
            fault("wet 1; " + other + "et 1;", 1, 7);
        }
    }

    // ---- the grammar ----

    private static void grammar() {
        S.holds("Terms", "text: {TELL}.", TextEdgesTest::textOfTells);
        S.holds("Terms", "'letter' NAME INT INT INT INT ';'", TextEdgesTest::tellLetter);
        S.holds("Terms", "'reader' NAME INT INT INT ';'", TextEdgesTest::tellReader);
        S.holds("Terms", "('likes' | 'rathers' | 'returns' | 'answers') LAW ';'", TextEdgesTest::tellLaw);
        S.holds("Terms", "'turns' INT ';' | 'wet' INT ';' | 'seed' INT ';'.", TextEdgesTest::tellSettings);
        S.holds("Terms", "LAW: '=' {'if' E '<' E 'then' E 'else'} E.", TextEdgesTest::law);
        S.holds("Terms", "E: PART {('+' | '-') PART}.", TextEdgesTest::sum);
        S.holds("Terms", "PART: UNIT {('*' | '/') UNIT}.", TextEdgesTest::product);
        S.holds("Terms", "UNIT: INT | VAR | '(' E ')'.", TextEdgesTest::unit);
        S.holds("Terms", "VAR: 'apart' | 'hand' | 'grief' | 'taste' | 'patience' | 'age' | 'day' | 'which' | 'had'.",
            TextEdgesTest::variables);
    }

    private static void textOfTells() {
        fine("");
        fine(" ");
        fine("wet 1;");
        fine("wet 1;seed 1;turns 1;likes=1;rathers=1;returns=1;answers=1;letter a 1 1 1 1;reader b 1 1 1;");
        fine("reader b 1 1 1;letter a 1 1 1 1;answers=1;returns=1;rathers=1;likes=1;turns 1;seed 1;wet 1;");
        syntaxAtMark("^;");
        syntaxAtMark("wet 1;^;");
        syntaxAtMark("^a");
        syntaxAtMark("^1");
        syntaxAtMark("^=");
        for (String word : new String[] {"if", "then", "else", "apart", "had"}) {
            fault(word, 1, 0);
        }
    }

    private static void tellLetter() {
        syntaxAtMark("letter^");
        syntaxAtMark("letter ^;");
        syntaxAtMark("letter a^");
        syntaxAtMark("letter a^;");
        syntaxAtMark("letter a ^b 1 1 1 1;");
        syntaxAtMark("letter a 1 1 1^");
        syntaxAtMark("letter a 1 1 1^;");
        syntaxAtMark("letter a 1 1 1 1^");
        syntaxAtMark("letter a 1 1 1 1 ^1;");
        syntaxAtMark("letter a 1 1 1 1 ^letter");
        syntaxAtMark("letter a ^-1 1 1 1;");
        syntaxAtMark("letter a 1 1 1 ^hand;");
    }

    private static void tellReader() {
        syntaxAtMark("reader^");
        syntaxAtMark("reader ^1 1 1;");
        syntaxAtMark("reader a^;");
        syntaxAtMark("reader a 1 1^");
        syntaxAtMark("reader a 1 1^;");
        syntaxAtMark("reader a 1 1 1^");
        syntaxAtMark("reader a 1 1 1 ^1;");
        syntaxAtMark("reader a 1 1 ^-1;");
    }

    private static void tellLaw() {
        for (String law : new String[] {"likes", "rathers", "returns", "answers"}) {
            fine(law + "=1;");
            syntaxAtMark(law + "^");
            syntaxAtMark(law + "^;");
            syntaxAtMark(law + " ^1;");
            syntaxAtMark(law + " = 1^");
            syntaxAtMark(law + " = 1 ^wet 1;");
            syntaxAtMark(law + " = 1; ^= 1;");
        }
    }

    private static void tellSettings() {
        for (String setting : new String[] {"turns", "wet", "seed"}) {
            fine(setting + " 1;");
            syntaxAtMark(setting + "^");
            syntaxAtMark(setting + "^;");
            syntaxAtMark(setting + " ^a;");
            syntaxAtMark(setting + " ^= 1;");
            syntaxAtMark(setting + " ^-1;");
            syntaxAtMark(setting + " 1^");
            syntaxAtMark(setting + " 1 ^1;");
        }
    }

    private static void law() {
        fine("likes=1;");
        fine("likes=" + IF + "1;");
        fine("likes=" + IF + IF + "1;");
        syntaxAtMark("likes=^;");
        syntaxAtMark("likes=if ^< 2 then 3 else 4;");
        syntaxAtMark("likes=if 1 ^then 3 else 4;");
        syntaxAtMark("likes=if 1 ^= 2 then 3 else 4;");
        syntaxAtMark("likes=if 1<2 ^< 3 then 3 else 4;");
        syntaxAtMark("likes=if 1<2 ^else 4;");
        syntaxAtMark("likes=if 1<2^;");
        syntaxAtMark("likes=if 1<2 then ^;");
        syntaxAtMark("likes=if 1<2 then ^if 1<2 then 3 else 4 else 5;");
        syntaxAtMark("likes=if 1<2 then 3^;");
        syntaxAtMark("likes=if 1<2 then 3 ^then 4;");
        syntaxAtMark("likes=if 1<2 then 3 else ^;");
        syntaxAtMark("likes=if 1<2 then 3 else^");
        syntaxAtMark("likes=if 1<2 then 3 else 4 ^else 5;");
        syntaxAtMark("likes=if 1<2 then 3 else 4 ^if 1<2 then 3 else 4;");
        syntaxAtMark("likes=1 ^if 1<2 then 3 else 4;");
        syntaxAtMark("likes=1 ^< 2;");
        syntaxAtMark("likes=1 ^= 2;");
        syntaxAtMark("likes=^= 2;");
        syntaxAtMark("likes=if ^if 1<2 then 3 else 4 < 5 then 6 else 7;");
    }

    private static void sum() {
        fine("likes=1+2-3+4;");
        syntaxAtMark("likes=^+1;");
        syntaxAtMark("likes=^-1;");
        syntaxAtMark("likes=1+^;");
        syntaxAtMark("likes=1-^;");
        syntaxAtMark("likes=1+^-1;");
        syntaxAtMark("likes=1-^");
        syntaxAtMark("likes=1+^if 1<2 then 3 else 4;");
    }

    private static void product() {
        fine("likes=1*2/3*4;");
        syntaxAtMark("likes=^*1;");
        syntaxAtMark("likes=^/1;");
        syntaxAtMark("likes=1*^;");
        syntaxAtMark("likes=1/^;");
        syntaxAtMark("likes=1*^/1;");
        syntaxAtMark("likes=1*^-1;");
        syntaxAtMark("likes=2 ^3;");
        syntaxAtMark("likes=2 ^hand;");
        syntaxAtMark("likes=2 ^(3);");
        syntaxAtMark("likes=(2) ^3;");
    }

    private static void unit() {
        fine("likes=0;");
        fine("likes=hand;");
        fine("likes=(0);");
        fine("likes=(hand+(1));");
        syntaxAtMark("likes=(^);");
        syntaxAtMark("likes=^);");
        syntaxAtMark("likes=(1^;");
        syntaxAtMark("likes=(1^");
        syntaxAtMark("likes=((1)^;");
        syntaxAtMark("likes=1^);");
        syntaxAtMark("likes=(1)^);");
        syntaxAtMark("likes=(1 ^< 2);");
        syntaxAtMark("likes=if (1 ^< 2) then 3 else 4;");
        syntaxAtMark("likes=if (1 ^then 2;");
        syntaxAtMark("likes=if 1<2 then (3 ^else 4);");
        syntaxAtMark("likes=(^if 1<2 then 3 else 4);");
        syntaxAtMark("likes=(^-1);");
    }

    private static void variables() {
        for (int i = 12; i < WORDS.length; i++) {
            fine("likes=" + WORDS[i] + ";rathers=1+" + WORDS[i] + ";returns=(" + WORDS[i] + ");answers=" + WORDS[i] + ";");
        }
        for (int i = 0; i < 12; i++) {
            fault("likes=1+" + WORDS[i] + ";", 1, 8);
        }
        syntaxAtMark("likes=^want;");
        syntaxAtMark("likes=^comes;");
        syntaxAtMark("likes=^a;");
        syntaxAtMark("letter a 1 1 1 1; likes=^a;");
    }

    // ---- how many, and which numbers ----

    private static void limits() {
        S.holds("Terms", "LETTERS, 7 at most", TextEdgesTest::sevenLetters);
        S.holds("Terms", "HAND 0 .. 9, WANT 0 .. 9, GRIEF 0 .. 9", TextEdgesTest::letterMarks);
        S.holds("Terms", "COMES: the day on which it comes 0 .. 99)", TextEdgesTest::comes);
        S.holds("Terms", "READERS, 6 at most", TextEdgesTest::sixReaders);
        S.holds("Terms", "WANT 0 .. 9, TASTE 0 .. 9, PATIENCE 0 .. 9)", TextEdgesTest::readerMarks);
        S.holds("Terms", "numbered each from 0 on as they stand", TextEdgesTest::numbered);
        S.holds("Terms", "each READER's WANT turns by one (9: 0) 0 .. 99 (0: never)", TextEdgesTest::turns);
        S.holds("Terms", "WET: in how many of 100 days 0 .. 100 (0)", TextEdgesTest::wet);
        S.holds("Terms", "SEED 0 .. 9999 (0)", TextEdgesTest::seed);
    }

    private static void sevenLetters() {
        HopeDrawer x = Check.drawerWith(letters(7));
        S.due("seven", x.count(0), 7);
        S.due("the last", x.letter(6, 0), 1);
        S.due("none behind it", x.letter(7, 0), -1);
        S.due("all to come", x.count(3), 127);
        fault(letters(8), 2, letters(7).length());
        fault(letters(7) + readers(2) + "letter z 1 1 1 1;", 2, (letters(7) + readers(2)).length());
    }

    private static void letterMarks() {
        HopeDrawer x = Check.drawerWith("letter a 0 0 0 0; letter b 9 9 9 0;");
        for (int what = 0; what <= 2; what++) {
            S.due("mark " + what + " of a", x.letter(0, what), 0);
            S.due("mark " + what + " of b", x.letter(1, what), 9);
        }
        faultAtMark(5, "letter a ^10 0 0 0;");
        faultAtMark(5, "letter a 0 ^10 0 0;");
        faultAtMark(5, "letter a 0 0 ^10 0;");
        faultAtMark(5, "letter a ^9999 0 0 0;");
    }

    private static void comes() {
        HopeDrawer x = Check.drawerWith("letter a 0 0 0 0; letter b 0 0 0 99; letter c 0 0 0 98; likes = 0;");
        S.due("a", x.letter(0, 3), 0);
        S.due("b", x.letter(1, 3), 99);
        x.days(1);
        S.due("a came", x.count(4), 1);
        x.days(60);
        x.days(37);
        S.due("day 98, no other came", x.count(4), 1);
        x.days(1);
        S.due("c came on day 98", x.count(4), 5);
        x.days(1);
        S.due("b came on day 99", x.count(4), 7);
        faultAtMark(5, "letter a 0 0 0 ^100;");
        faultAtMark(5, "letter a 0 0 0 ^9999;");
    }

    private static void sixReaders() {
        HopeDrawer x = Check.drawerWith(readers(6));
        S.due("six", x.count(1), 6);
        S.due("the last", x.reader(5, 1), 1);
        S.due("none behind it", x.reader(6, 1), -1);
        S.due("all have none", x.count(15), 63);
        fault(readers(7), 2, readers(6).length());
        fault(readers(6) + letters(2) + "reader z 1 1 1;", 2, (readers(6) + letters(2)).length());
    }

    private static void readerMarks() {
        HopeDrawer x = Check.drawerWith("reader a 0 0 0; reader b 9 9 9;");
        for (int what = 0; what <= 2; what++) {
            S.due("mark " + what + " of a", x.reader(0, what), 0);
            S.due("mark " + what + " of b", x.reader(1, what), 9);
        }
        faultAtMark(5, "reader a ^10 0 0;");
        faultAtMark(5, "reader a 0 ^10 0;");
        faultAtMark(5, "reader a 0 0 ^10;");
        faultAtMark(5, "reader a 0 0 ^9999;");
    }

    private static void numbered() {
        HopeDrawer x = Check.drawerWith("reader z 1 1 1; letter y 2 2 2 2; reader a 3 3 3; letter b 4 4 4 4; wet 0;"
            + "letter c 5 5 5 5; reader d 6 6 6;");
        for (int i = 0; i < 3; i++) {
            S.due("letter " + i, x.letter(i, 0), new int[] {2, 4, 5}[i]);
            S.due("reader " + i, x.reader(i, 0), new int[] {1, 3, 6}[i]);
        }
    }

    private static void turns() {
        HopeDrawer x = Check.drawerWith("reader a 9 1 1; reader b 8 1 1; reader c 0 1 1; turns 1;");
        x.days(1);
        S.due("9 turns to 0", x.reader(0, 0), 0);
        S.due("8 to 9", x.reader(1, 0), 9);
        S.due("0 to 1", x.reader(2, 0), 1);
        x.days(60);
        S.due("60 turns are six rounds", x.reader(0, 0), 0);
        HopeDrawer y = Check.drawerWith("reader a 9 1 1; turns 0;");
        y.days(60);
        y.days(60);
        S.due("never", y.reader(0, 0), 9);
        HopeDrawer z = Check.drawerWith("reader a 9 1 1; turns 99;");
        z.days(60);
        z.days(38);
        S.due("98 days are too few", z.reader(0, 0), 9);
        z.days(1);
        S.due("99 days", z.reader(0, 0), 0);
        faultAtMark(5, "turns ^100;");
        faultAtMark(5, "turns ^9999;");
    }

    private static void wet() {
        HopeDrawer never = Check.drawerWith("wet 0; seed 5;");
        HopeDrawer untold = Check.drawerWith("seed 5;");
        HopeDrawer always = Check.drawerWith("wet 100; seed 5;");
        for (int day = 0; day < 120; day++) {
            S.due("never wet", never.count(12), 0);
            S.due("untold", untold.count(12), 0);
            S.due("always wet", always.count(12), 1);
            never.days(1);
            untold.days(1);
            always.days(1);
        }
        faultAtMark(5, "wet ^101;");
        faultAtMark(5, "wet ^9999;");
    }

    /** LOT 100 of SEED 0 is 63 on day 0, 26 on day 1; of SEED 9999 32 and 51. */
    private static void seed() {
        HopeDrawer untold = Check.drawerWith("wet 63;");
        S.due("63 is not less than 63", untold.count(12), 0);
        untold.days(1);
        S.due("26 is", untold.count(12), 1);
        S.due("told as 0", Check.drawerWith("wet 64; seed 0;").count(12), 1);
        HopeDrawer x = Check.drawerWith("wet 33; seed 9999;");
        S.due("32 is less than 33", x.count(12), 1);
        x.days(1);
        S.due("51 is not", x.count(12), 0);
        syntaxAtMark("seed ^10000;");
    }

    // ---- what is not told, told more than once ----

    private static void notTold() {
        S.holds("Terms", "LIKES (10 less apart), RATHERS (patience), RETURNS (0), ANSWERS (0), if not told",
            TextEdgesTest::lawsNotTold);
        S.holds("Terms", "if not told; the last one.", TextEdgesTest::lastLaw);
        S.holds("Terms", "SEED 0 .. 9999 (0): the last one.", TextEdgesTest::lastSetting);
    }

    private static void lawsNotTold() {
        String people = "letter a 1 9 1 0; letter b 1 0 1 1; reader r 0 3 7; reader s 9 3 0;";
        HopeDrawer x = Check.drawerWith("likes = ?; rathers = ?; returns = ?; answers = ?;".replace("?", "if 1 < 2 then 44 else 55") + people);
        S.due("told", x.tells(0, 0, 0) + x.tells(0, 0, 1) + x.tells(0, 0, 2) + x.answers(1, 0), 44 + 44 + 1 + 1);
        // Two texts, since what the first one told must not be left in the second, nor in the third.
        for (int text = 2; text <= 3; text++) {
            Check.feed(x, people);
            S.due("read " + text, x.read(), 0);
            S.due("10 less 9", x.tells(0, 0, 0), 1);
            S.due("10 less 0", x.tells(0, 1, 0), 10);
            S.due("patience 7", x.tells(0, 0, 1), 7);
            S.due("patience 0", x.tells(0, 1, 1), 0);
            S.due("returns", x.tells(0, 0, 2), 0);
            S.due("answers", x.answers(1, 0), 0);
        }
    }

    private static void lastLaw() {
        HopeDrawer x = Check.drawerWith("letter a 1 9 1 0; letter b 1 0 1 1; reader r 0 3 7;"
            + "likes = if 1 < 2 then 5 else 6; rathers = 3; returns = 1; answers = 0;"
            + "likes = 8; rathers = 1 + (2 * 2); returns = 0; answers = 1;");
        S.due("likes", x.tells(0, 0, 0), 8);
        S.due("rathers", x.tells(0, 0, 1), 5);
        S.due("returns", x.tells(0, 0, 2), 0);
        S.due("answers", x.answers(1, 0), 1);
        S.due("a shorter one behind", Check.drawerWith("letter a 1 9 1 0; reader r 0 3 7; likes = 1 + 2 * 3; likes = 2;")
            .tells(0, 0, 0), 2);
        // There may be as many as there is room for.
        fine("likes = 1;".repeat(100));
    }

    private static void lastSetting() {
        HopeDrawer x = Check.drawerWith("turns 1; turns 2; wet 100; wet 0; reader r 1 1 1;");
        S.due("the last wet", x.count(12), 0);
        x.days(1);
        S.due("not turned", x.reader(0, 0), 1);
        x.days(1);
        S.due("turned by the last turns", x.reader(0, 0), 2);
        S.due("the last seed", Check.drawerWith("seed 0; seed 9999; wet 33;").count(12), 1);
        S.due("a last 0", Check.drawerWith("seed 9999; seed 0; wet 33;").count(12), 0);
        // An earlier one must be as told, too.
        faultAtMark(5, "turns ^100; turns 1;");
        // Those of a text ahead are not the last ones of this one, nor of the next. LOT 100 of SEED 0 is 63.
        HopeDrawer y = Check.drawerWith("turns 1; wet 100; seed 9999;");
        for (int text = 2; text <= 3; text++) {
            Check.feed(y, "reader r 1 1 1;");
            y.read();
            S.due("wet of text " + text, y.count(12), 0);
            S.due("turns of text " + text, y.readerIn(0, 5, 1), 1);
        }
        HopeDrawer z = Check.drawerWith("turns 1; wet 100; seed 9999;");
        for (int text = 2; text <= 3; text++) {
            Check.feed(z, "wet 63;");
            z.read();
            S.due("seed of text " + text, z.count(12), 0);
        }
    }

    // ---- FAULTS ----

    private static void faults() {
        S.holds("Terms", "the first by its place (a byte; the text's end: its length)", TextEdgesTest::firstByPlace);
        S.holds("Terms", "of one place the least", TextEdgesTest::leastOfOnePlace);
        S.holds("Terms", "1 SYNTAX: a TOKEN, or what is none, with which no text goes on.", TextEdgesTest::syntax);
        S.holds("Terms", "2 ROOM: a 401st TOKEN", TextEdgesTest::tokensTooMany);
        S.holds("Terms", "one more of a sort than told (at its first TOKEN)", TextEdgesTest::sortsTooMany);
        S.holds("Terms", "a 5th if of a LAW (at it)", TextEdgesTest::ifsTooMany);
        S.holds("Terms", "a 7th ( within one another (at it).", TextEdgesTest::bracketsTooMany);
        S.holds("Terms", "If there is none, likewise:", TextEdgesTest::meaningLast);
        S.holds("Terms", "3 TWICE: a NAME told already (of LETTERS and READERS together).", TextEdgesTest::twice);
        S.holds("Terms", "5 WRONG (at the INT): a number not as told above.", TextEdgesTest::wrong);
    }

    private static void firstByPlace() {
        faultAtMark(1, "wet ^? ; " + letters(8));
        fault(letters(8) + " ?", 2, letters(7).length());
        fault("likes=" + IF.repeat(5) + "(((((((1;", 2, 6 + 4 * IF.length());
        fault("likes=(((((((" + IF.repeat(5) + "1;", 2, 12);
        fault("wet", 1, 3);
        fault("wet  ", 1, 5);
        fault("wet 1", 1, 5);
        fault("wet 1\n\n", 1, 7);
        fault("?", 1, 0);
        fault("\t?", 1, 1);
        // A byte, not a token or a line.
        fault("wet 1;\nwet 1;\n\n  ?", 1, 17);
    }

    private static void leastOfOnePlace() {
        // 400 TOKENS, then one with which no text goes on: SYNTAX 1, ROOM 2.
        String full = "likes=1;" + "seed 1;".repeat(132);
        fault(full + ")", 1, full.length());
        fault(full + "x", 1, full.length());
        fault(full + "?", 1, full.length());
        fault(full + "seed", 2, full.length());
        // 400 TOKENS that are no whole text: the end is no TOKEN.
        String cut = "seed 1;".repeat(133) + "seed";
        fault(cut, 1, cut.length());
        fault(cut + " ", 1, cut.length() + 1);
        fault(cut + " ;", 1, cut.length() + 1);
        fault(cut + " 1", 2, cut.length() + 1);
    }

    private static void syntax() {
        faultAtMark(1, "letter a 1 1 1 1 ^reader");
        faultAtMark(1, "letter a 1 1 1 1; ^\u0000");
        faultAtMark(1, "letter ^LETTER 1 1 1 1;");
        faultAtMark(1, "likes = 1 + ^123456;");
        faultAtMark(1, "likes = 1 + ^abcdefghijkl;");
        faultAtMark(1, "likes = 1 +^");
        // What comes behind does not make it another fault.
        faultAtMark(1, "^x " + letters(8));
    }

    private static void tokensTooMany() {
        fine("likes=1;" + "seed 1;".repeat(132));
        fine("likes=1;" + "seed 1;".repeat(132) + "\n ");
        fault("likes=1;" + "seed 1;".repeat(132) + "wet 1;", 2, 8 + 7 * 132);
        fine("likes=1" + "+0".repeat(198) + ";");
        fault("likes=1" + "+0".repeat(198) + ";\n\nlikes=1;", 2, 7 + 2 * 198 + 3);
        // The 401st is the last ';' of a text that would be fine.
        fault("likes=1" + "-0".repeat(198) + "+1;", 2, 7 + 2 * 198 + 2 - 1);
        HopeDrawer x = Check.drawerWith("letter a 1 1 1 1;reader r 1 1 1;likes=1" + "-1+1".repeat(95) + "+5;");
        S.due("the longest of laws holds", x.tells(0, 0, 0), 6);
    }

    private static void sortsTooMany() {
        fine(letters(7) + readers(6));
        fault(letters(7) + "\n letter", 2, letters(7).length() + 2);
        fault(letters(7) + "letter ;", 2, letters(7).length());
        fault(letters(7) + "letter la 1 1 1 1;", 2, letters(7).length());
        fault(letters(7) + "letter z 99 1 1 1;", 2, letters(7).length());
        fault(letters(7) + "letter ?", 2, letters(7).length());
        fault(readers(6) + " reader", 2, readers(6).length() + 1);
        fault(readers(6) + "reader z 1 1 1;", 2, readers(6).length());
        fault(letters(7) + readers(7), 2, (letters(7) + readers(6)).length());
        fault(readers(6) + letters(8), 2, (readers(6) + letters(7)).length());
    }

    private static void ifsTooMany() {
        fine("likes=" + IF.repeat(4) + "1;");
        fault("likes=" + IF.repeat(5) + "1;", 2, 6 + 4 * IF.length());
        fault("likes=" + IF.repeat(4) + "if", 2, 6 + 4 * IF.length());
        fault("likes=" + IF.repeat(4) + "if ?", 2, 6 + 4 * IF.length());
        // Four of each LAW.
        fine("likes=" + IF.repeat(4) + "1;rathers=" + IF.repeat(4) + "1;returns=" + IF.repeat(4) + "1;answers="
            + IF.repeat(4) + "1;");
        fine("likes=" + IF.repeat(4) + "1;likes=" + IF.repeat(4) + "1;");
        fault("likes=" + IF.repeat(4) + "1 if", 1, 6 + 4 * IF.length() + 2);
        HopeDrawer x = Check.drawerWith("letter a 1 1 1 1;reader r 1 1 1;likes="
            + "if 2<1 then 3 else ".repeat(3) + "if 1<2 then 4 else 5;");
        S.due("the fourth if holds", x.tells(0, 0, 0), 4);
    }

    private static void bracketsTooMany() {
        fine("likes=((((((1))))));");
        fault("likes=(((((((1)))))));", 2, 12);
        fault("likes=(((((((", 2, 12);
        fault("likes=((((((((((((", 2, 12);
        // Beside one another there may be more than six.
        fine("likes=(1)+(1)+(1)+(1)+(1)+(1)+(1)+(1);");
        fine("likes=((((((1))))))+((((((1))))));");
        fine("likes=((((((1)+(1)))+(((1))))));");
        fault("likes=((((((1)+((1)))))));", 2, 16);
        fine("likes=if((((((1))))))<((((((1))))))then((((((1))))))else((((((1))))));rathers=((((((1))))));");
        fault("likes=if 1<(((((((1", 2, 17);
        HopeDrawer x = Check.drawerWith("letter a 1 1 1 1;reader r 1 1 1;"
            + "likes=(1)+1*(1+1*(1+1*(1+1*(1+1*(1+1*(1+2*3))))));rathers=20-6/(5-4/(5-4/(5-4/(5-4/(5-4/(5-4/4))))));");
        S.due("six within one another are worked out", x.tells(0, 0, 0), 13);
        S.due("from the innermost on", x.tells(0, 0, 1), 19);
    }

    private static void meaningLast() {
        faultAtMark(1, "letter a 99 1 1 1; letter a 1 1 1 1; ^x");
        fault("wet 101;" + letters(8), 2, 8 + letters(7).length());
        fault("letter a 99 1 1 1", 1, 17);
        faultAtMark(3, "letter a 1 1 1 1; letter ^a 99 1 1 1;");
        faultAtMark(5, "letter a 1 1 1 ^100; letter a 99 1 1 1;");
        faultAtMark(3, "reader a 1 1 1; reader ^a 1 1 1; reader a 1 1 1; wet 101;");
    }

    private static void twice() {
        faultAtMark(3, "letter a 1 1 1 1; letter ^a 1 1 1 1;");
        faultAtMark(3, "reader a 1 1 1; reader ^a 1 1 1;");
        faultAtMark(3, "letter a 1 1 1 1; reader ^a 1 1 1;");
        faultAtMark(3, "reader a 1 1 1; letter ^a 1 1 1 1;");
        faultAtMark(3, "letter abcdefgh 1 1 1 1; letter b 1 1 1 1; letter ^abcdefgh 1 1 1 1;");
        fine("letter abcdefgh 1 1 1 1; letter abcdefgi 1 1 1 1; letter bbcdefgh 1 1 1 1; letter abcdefg 1 1 1 1;");
        fine("letter a 1 1 1 1; letter aa 1 1 1 1; letter aaa 1 1 1 1; reader aaaa 1 1 1;");
        // The last of thirteen is held against the first.
        fault(letters(7) + readers(5) + "reader la 1 1 1;", 3, (letters(7) + readers(5)).length() + 7);
        fault(readers(6) + letters(6) + "letter rf 1 1 1 1;", 3, (readers(6) + letters(6)).length() + 7);
        // Names of the texts ahead are not told already.
        HopeDrawer x = Check.drawerWith(letters(7) + readers(6));
        for (int text = 2; text <= 4; text++) {
            Check.feed(x, text % 2 == 0 ? readers(6) + letters(7) : letters(7) + readers(6));
            S.due("the same names anew", x.read(), 0);
        }
    }

    private static void wrong() {
        fine("letter a 9 9 9 99; reader b 9 9 9; turns 99; wet 100; seed 9999;");
        faultAtMark(5, "letter a   ^10 1 1 1;");
        faultAtMark(5, "letter a 9 9 9 ^100; wet 101;");
        faultAtMark(5, "reader a 9 9 ^10;");
        faultAtMark(5, "wet ^0101;");
        faultAtMark(5, "turns ^0100;");
        fine("wet 0100; turns 0099; letter a 0009 09 009 0099;");
        // Numbers of LAWS are any.
        fine("likes = 9999 * 9999; returns = if 9999 < 9999 then 9999 else 9999;");
    }

    // ---- a text with a FAULT, and one without ----

    private static void faultless() {
        S.holds("Terms", "A text with a FAULT changes nothing but the tape", TextEdgesTest::faultChangesNothing);
        S.holds("Terms", "else it is in place of the one ahead: day 0, nobody has a LETTER", TextEdgesTest::inPlace);
        S.holds("Terms", "nothing can be undone, nothing is TOLD, SLOTS hold nothing.", TextEdgesTest::nothingLeft);
    }

    private static HopeDrawer busy() {
        HopeDrawer x = Check.drawerWith("letter a 3 3 3 0; letter b 4 4 4 1; reader r 3 2 1; reader s 9 9 9; turns 2;"
            + "likes = 20 - apart; returns = age - 1; rathers = 7; answers = 1; wet 0; seed 4;");
        x.days(3);
        x.takeBack(0);
        x.hold(1);
        x.tell(0, 4, true);
        return x;
    }

    private static void faultChangesNothing() {
        String other = "letter c 1 1 1 9; letter d 1 1 1 9; letter e 1 1 1 9; reader t 1 1 1; likes = 1; rathers = 1;"
            + "returns = 0; answers = 0; turns 9; wet 100; seed 9;";
        String[] bad = {other + "?", other + letters(7), other + "letter c 1 1 1 1;", other + "wet 101;", other + "letter"};
        int[] number = {1, 2, 3, 5, 1};
        for (int i = 0; i < bad.length; i++) {
            HopeDrawer x = busy();
            String text = bad[i];
            int due = number[i];
            S.nothingHappens(x, () -> {
                Check.feed(x, text);
                S.due("read", x.read(), due);
            });
            S.due("likes", x.tells(0, 0, 0), 19);
            S.due("rathers", x.tells(0, 0, 1), 7);
            S.due("returns", x.tells(0, 0, 2), 1);
            S.due("answers", x.answers(1, 0), 1);
            S.due("turns goes on", x.readerIn(0, 1, 1), 5);
            S.due("undone as ahead", x.undo(), true);
            S.due("the letter is taken again", x.letter(0, 4), 2);
            S.due("the slot holds", x.restore(1), true);
        }
        nothingLeftBehindByFaults();
    }

    /** Nor does it change what a later text is: all that was begun ahead of the fault is gone. */
    private static void nothingLeftBehindByFaults() {
        String[] bad = {letters(8), readers(7), "likes=" + IF.repeat(5), "likes=(((((((1", "likes=1+2*(3-4/(5+6*", "likes=1*2",
            "letter la 1 1 1 1; reader ra 1 1 1; turns 1; wet 100; seed 7; likes=3; rathers=" + IF + "5; returns=1; answers=1; ?",
            "letter la 99 1 1 1;", letters(1) + letters(1), "letter", "likes=1+0".repeat(200)};
        String law = "((((((1 + 2))))))";
        String good = letters(6) + "letter lg 1 1 1 5;" + readers(6) + "likes = " + IF.replace("1<2", "2<1").repeat(4) + law + ";";
        for (String text : bad) {
            HopeDrawer x = new HopeDrawer();
            Check.feed(x, text);
            S.due("a fault in <" + text + ">", x.read() > 0, true);
            Check.feed(x, "wet 0;");
            S.due("a short text behind it", x.read(), 0);
            Check.feed(x, text);
            x.read();
            Check.feed(x, good);
            S.due("a full text behind it", x.read(), 0);
            S.due("its likes", x.tells(6, 5, 0), 3);
            S.due("its rathers", x.tells(6, 5, 1), 1);
            S.due("its returns", x.tells(6, 5, 2), 0);
            S.due("its answers", x.answers(6, 5), 0);
            S.due("its wet", x.count(12), 0);
            S.due("its turns", x.readerIn(0, 5, 1), 1);
        }
    }

    private static void inPlace() {
        HopeDrawer x = busy();
        Check.feed(x, "letter c 5 6 7 0; letter d 5 6 7 2; letter e 5 6 7 0; reader t 8 1 1; reader u 7 1 1;");
        S.due("read", x.read(), 0);
        S.due("day", x.count(2), 0);
        S.due("letters", x.count(0), 3);
        S.due("all to come", x.count(3), 7);
        S.due("nobody has one", x.count(15), 3);
        S.due("none had", x.count(14), 0);
        S.due("none sent back", x.count(13), 0);
        for (int i = 0; i < 2; i++) {
            S.due("letter " + i + " with nobody", x.letter(i, 5), -2);
            S.due("letter " + i + " not sent back", x.letter(i, 6), 0);
            S.due("reader " + i + " has none", x.reader(i, 3), -2);
            S.due("reader " + i + " had none", x.reader(i, 4), 0);
            S.due("reader " + i + " wants as told", x.reader(i, 0), 8 - i);
        }
        x.days(2);
        S.due("turns are as not told", x.reader(0, 0), 8);
        Check.feed(x, " ");
        S.due("read of a blank", x.read(), 0);
        S.due("no letters", x.count(0), 0);
        S.due("no readers", x.count(1), 0);
        S.due("day 0", x.count(2), 0);
    }

    private static void nothingLeft() {
        HopeDrawer x = busy();
        S.due("undo ahead", x.count(9), 2);
        S.due("told ahead", x.count(10), 1);
        S.due("held ahead", x.count(11), 1);
        Check.feed(x, letters(2));
        x.read();
        S.due("things to undo", x.count(9), 0);
        S.due("undo", x.undo(), false);
        S.due("told", x.count(10), 0);
        S.due("no first one is known", x.which(1, 0), -1);
        S.due("numbered from 0 again", x.tell(0, 1, true), 0);
        S.due("held", x.count(11), 0);
        for (int slot = 0; slot < 3; slot++) {
            S.due("restore " + slot, x.restore(slot), false);
        }
        // The same words told once more are a new text, too.
        HopeDrawer y = busy();
        y.read();
        S.due("an empty tape forgets, too", y.count(9) + y.count(10) + y.count(11), 0);
    }
}
