/** Promises 1 to 5: a new object, the tape, and what a text may be. */
public final class TextPromisesTest {
    private static final Check CHECK = new Check("TextPromisesTest");

    public static void main(String[] args) {
        newObject();
        feed();
        back();
        read();
        readReplaces();
        faultChangesNothing();
        syntax();
        syntaxOfLaws();
        tokens();
        roomOfSorts();
        roomOfLaws();
        roomOfTokens();
        twice();
        wrong();
        place();
        CHECK.end();
    }

    private static void fault(String text, int number, int place) {
        HopeDrawer x = new HopeDrawer();
        Check.feed(x, text);
        CHECK.due("read of <" + text + ">", x.read(), number);
        CHECK.due("place of <" + text + ">", x.place(), place);
    }

    private static void fine(String text) {
        fault(text, 0, -1);
    }

    private static void newObject() {
        HopeDrawer x = new HopeDrawer();
        for (int what = 0; what <= 15; what++) {
            CHECK.due("new count " + what, x.count(what), 0);
        }
        CHECK.due("new letter", x.letter(0, 0), -1);
        CHECK.due("new reader", x.reader(0, 0), -1);
        CHECK.due("new place", x.place(), -1);
        CHECK.due("NONE", HopeDrawer.NONE, -1);
        CHECK.due("new undo", x.undo(), false);
        CHECK.due("new restore", x.restore(0), false);
    }

    private static void feed() {
        HopeDrawer x = new HopeDrawer();
        // "turn" "s 7;" and blanks: the highest byte of a comes first.
        CHECK.due("feed", x.feed(0x7475726e, 0x7320373b, 0x20202020, 0x20202020, 0x20202020), 20);
        CHECK.due("bytes", x.count(8), 20);
        CHECK.due("read of fed", x.read(), 0);
        for (int i = 1; i <= 100; i++) {
            CHECK.due("feed " + i, x.feed(-1, -1, -1, -1, -1), 20 * i);
        }
        CHECK.due("feed above 2000", x.feed(0, 0, 0, 0, 0), -1);
        CHECK.due("nothing came", x.count(8), 2000);
        CHECK.due("back 19", x.back(19), 1981);
        CHECK.due("feed above 2000 by 1", x.feed(0, 0, 0, 0, 0), -1);
        CHECK.due("back 1", x.back(1), 1980);
        CHECK.due("feed up to 2000", x.feed(0, 0, 0, 0, 0), 2000);
    }

    private static void back() {
        HopeDrawer x = new HopeDrawer();
        CHECK.due("back 0 of none", x.back(0), 0);
        CHECK.due("back 1 of none", x.back(1), -1);
        x.feed(0, 0, 0, 0, 0);
        CHECK.due("back below 0", x.back(-1), -1);
        CHECK.due("back least", x.back(Integer.MIN_VALUE), -1);
        CHECK.due("back 21", x.back(21), -1);
        CHECK.due("nothing went", x.count(8), 20);
        CHECK.due("back 5", x.back(5), 15);
        CHECK.due("back 15", x.back(15), 0);
        Check.feed(x, "wet 1005");
        x.back(1);
        Check.feed(x, ";");
        CHECK.due("the last byte went", x.read(), 0);
    }

    private static void read() {
        HopeDrawer x = new HopeDrawer();
        CHECK.due("read of an empty tape", x.read(), 0);
        Check.feed(x, "letter one 1 2 3 4; reader two 5 6 7;\nletter three 9 8 7 99;\treader four 0 0 0;\r");
        CHECK.due("read", x.read(), 0);
        CHECK.due("tape is empty", x.count(8), 0);
        CHECK.due("letters", x.count(0), 2);
        CHECK.due("readers", x.count(1), 2);
        CHECK.due("letter 1 comes", x.letter(1, 3), 99);
        CHECK.due("reader 0 patience", x.reader(0, 2), 7);
        CHECK.due("all to come", x.count(3), 3);
        Check.feed(x, "lettera1 2 3 4;");
        CHECK.due("read of a name run into a word", x.read(), 1);
        CHECK.due("tape is empty behind a fault", x.count(8), 0);
        fine("letter a1 2 3 4;reader b1 2 3;likes=1;turns 2;wet 3;seed 4;");
        fine("  \t\r\n ");
    }

    private static void readReplaces() {
        HopeDrawer x = Check.drawerWith("letter a 1 1 1 0; reader r 1 1 1; likes = 50; rathers = 3; returns = 1; turns 1;");
        x.days(1);
        x.hold(0);
        x.tell(0, 1, true);
        CHECK.due("likes told", x.tells(0, 0, 0), 50);
        Check.feed(x, "letter b 1 1 1 0; reader s 1 1 8;");
        CHECK.due("read again", x.read(), 0);
        CHECK.due("day 0", x.count(2), 0);
        CHECK.due("nobody has one", x.reader(0, 3), -2);
        CHECK.due("to come again", x.count(3), 1);
        CHECK.due("none had", x.count(14), 0);
        CHECK.due("nothing undone", x.undo(), false);
        CHECK.due("nothing told", x.count(10), 0);
        CHECK.due("no slots", x.count(11), 0);
        CHECK.due("no restore", x.restore(0), false);
        CHECK.due("likes by default", x.tells(0, 0, 0), 10);
        CHECK.due("rathers by default", x.tells(0, 0, 1), 8);
        CHECK.due("returns by default", x.tells(0, 0, 2), 0);
        x.days(1);
        CHECK.due("turns by default", x.reader(0, 0), 1);
        Check.feed(x, "letter c 1 1 1 3; letter d 1 1 1 5; reader t 1 1 8;");
        x.read();
        CHECK.due("default likes of a third text", x.tells(0, 0, 0), 10);
        CHECK.due("default rathers of a third text", x.tells(0, 0, 1), 8);
        CHECK.due("default returns of a third text", x.tells(0, 0, 2), 0);
        CHECK.due("default answers of a third text", x.answers(1, 0), 0);
        x.days(1);
        CHECK.due("default turns of a third text", x.reader(0, 0), 1);
        Check.feed(x, "turns 1; likes = 1; turns 0; likes = 2; letter b 1 1 1 0; reader s 1 1 8;");
        x.read();
        x.days(1);
        CHECK.due("the last turns", x.reader(0, 0), 1);
        CHECK.due("the last likes", x.tells(0, 0, 0), 2);
    }

    private static void faultChangesNothing() {
        HopeDrawer x = Check.drawerWith("letter a 1 1 1 0; reader r 1 1 1; likes = 7; wet 0;");
        x.days(2);
        x.hold(1);
        x.tell(1, 1, true);
        Check.feed(x, "letter b 9 9 9 9; letter c 9 9 9 9; likes = 55; wet 100; oops");
        CHECK.due("fault", x.read(), 1);
        CHECK.due("letters stay", x.count(0), 1);
        CHECK.due("hand stays", x.letter(0, 0), 1);
        CHECK.due("likes stay", x.tells(0, 0, 0), 7);
        CHECK.due("wet stays", x.count(12), 0);
        CHECK.due("day stays", x.count(2), 2);
        CHECK.due("slot stays", x.count(11), 1);
        CHECK.due("told stays", x.count(10), 1);
        CHECK.due("can be undone", x.undo(), true);
        CHECK.due("place of oops", x.place(), 57);
    }

    private static void syntax() {
        fault("x", 1, 0);
        fault("letter", 1, 6);
        fault("letter  ", 1, 8);
        fault("letter a 1 1 1 1", 1, 16);
        fault("letter a 1 1 1;", 1, 14);
        fault("letter a 1 1 1 1 1;", 1, 17);
        fault("letter hand 1 1 1 1;", 1, 7);
        fault("letter then 1 1 1 1;", 1, 7);
        fault("letter 5 1 1 1 1;", 1, 7);
        fault("reader r 1 1 1 1;", 1, 15);
        fault("reader r 1 1;", 1, 12);
        fault(";", 1, 0);
        fault("turns;", 1, 5);
        fault("turns 1 2;", 1, 8);
        fault("wet = 1;", 1, 4);
        fault("seed 1;;", 1, 7);
        fault("seed -1;", 1, 5);
        // Room and syntax come ahead of what a text means, wherever they are.
        fault("wet 101; letter a 1 1 1 1; letter a 1 1 1 1; x", 1, 45);
    }

    private static void syntaxOfLaws() {
        fine("likes=1;rathers=apart+hand-grief*taste/patience;returns=age;answers=day+which+had;");
        fine("likes = if 1 < 2 then 3 else if (1) < ((2)) then (3+4)*5 else 6;");
        fault("likes;", 1, 5);
        fault("likes=;", 1, 6);
        fault("likes=1", 1, 7);
        fault("likes=-1;", 1, 6);
        fault("likes=1+;", 1, 8);
        fault("likes=1 2;", 1, 8);
        fault("likes=(1;", 1, 8);
        fault("likes=1);", 1, 7);
        fault("likes=();", 1, 7);
        fault("likes=a;", 1, 6);
        fault("likes=1<2;", 1, 7);
        fault("likes=if 1 then 2 else 3;", 1, 11);
        fault("likes=if 1<2<3 then 2 else 3;", 1, 12);
        fault("likes=if 1<2 else 3;", 1, 13);
        fault("likes=if 1<2 then 3;", 1, 19);
        fault("likes=if 1<2 then if 1<2 then 3 else 4 else 5;", 1, 18);
        fault("likes=(if 1<2 then 3 else 4);", 1, 7);
        fault("likes=if (1<2) then 3 else 4;", 1, 11);
        fault("likes=1+if 1<2 then 3 else 4;", 1, 8);
        fault("likes=if 1<2 then 3 else ;", 1, 25);
        fault("likes=if 1<2 then 3 else", 1, 24);
        fault("likes=(1 then 2;", 1, 9);
    }

    private static void tokens() {
        fine("letter abcdefgh 1 1 1 1;");
        fault("letter abcdefghi 1 1 1 1;", 1, 7);
        fine("seed 9999;");
        fault("seed 00001;", 1, 5);
        fine("seed 0001;");
        fault("Letter a 1 1 1 1;", 1, 0);
        fault("letter A 1 1 1 1;", 1, 7);
        fault("letter a_ 1 1 1 1;", 1, 8);
        fault("seed 1 \u0000;", 1, 7);
        fault("seed 1;\u000b", 1, 7);
        fault("\u00e9", 1, 0);
        fault("seed 1;\u00ff", 1, 7);
        fine("letter iff 1 1 1 1;");
        fine("letter letters 1 1 1 1;");
        fine("letter az 1 1 1 1; letter za 1 1 1 1;");
        fault("letter `a 1 1 1 1;", 1, 7);
        fault("letter a{ 1 1 1 1;", 1, 8);
        fault("seed :;", 1, 5);
        fault("x" + " ".repeat(1998) + ";", 1, 0);
        fault(" ".repeat(1999) + ";", 1, 1999);
        fine(" ".repeat(2000));
        fault("a".repeat(2000), 1, 0);
        fault("seed " + "1".repeat(1995), 1, 5);
    }

    private static String letters(int n) {
        StringBuilder text = new StringBuilder();
        for (int i = 0; i < n; i++) {
            text.append("letter l").append((char) ('a' + i)).append(" 1 1 1 1;");
        }
        return text.toString();
    }

    private static String readers(int n) {
        StringBuilder text = new StringBuilder();
        for (int i = 0; i < n; i++) {
            text.append("reader r").append((char) ('a' + i)).append(" 1 1 1;");
        }
        return text.toString();
    }

    private static void roomOfSorts() {
        fine(letters(7) + readers(6));
        fault(letters(8), 2, letters(7).length());
        fault(readers(7), 2, readers(6).length());
        fault(letters(7) + "letter;", 2, letters(7).length());
        fault(letters(7) + " letter", 2, letters(7).length() + 1);
        fault("x" + letters(8), 1, 0);
        fault(letters(7) + "letter la 1 1 1 1;", 2, letters(7).length());
    }

    private static void roomOfLaws() {
        String ifs = "if 1<2 then 3 else ";
        fine("likes=" + ifs.repeat(4) + "5;rathers=" + ifs.repeat(4) + "5;");
        fault("likes=" + ifs.repeat(5) + "5;", 2, 6 + 4 * ifs.length());
        fault("likes=" + ifs.repeat(4) + "if ;", 2, 6 + 4 * ifs.length());
        fine("likes=((((((1))))))+((((((1))))));");
        fault("likes=(((((((1)))))));", 2, 12);
        fine("likes=1+((((((2)+(3))))));");
        fault("likes=1+((((((2)+(3)+((4)))))));", 2, 22);
        fault("likes=if((((((1))))))<(((((((1))))))) then 1 else 2;", 2, 28);
    }

    private static void roomOfTokens() {
        // "likes" "=" "1" ";" are four, "+1" two more each.
        fine("likes=1" + "+1".repeat(198) + ";");
        fine("likes=1" + "+1".repeat(198) + "; \n");
        fault("likes=1" + "+1".repeat(198) + ";wet 1;", 2, 404);
        fault("likes=1" + "+1".repeat(199) + ";", 2, 404);
        // The 401st is none with which a text goes on, too: of one place the least.
        fault("likes=1" + "+1".repeat(198) + "; )", 1, 405);
        fault("likes=1" + "+1".repeat(198) + ";?", 1, 404);
        fault("seed 1;".repeat(133) + "seed", 1, 935);
        fault("seed 1;".repeat(133) + "seed 1;", 2, 936);
    }

    private static void twice() {
        fault("letter a 1 1 1 1; letter a 1 1 1 1;", 3, 25);
        fault("letter a 1 1 1 1; reader a 1 1 1;", 3, 25);
        fault("reader a 1 1 1; reader a 1 1 1;", 3, 23);
        fault("letter a 1 1 1 1; letter b 1 1 1 1; reader b 1 1 1; reader a 1 1 1;", 3, 43);
        fine("letter a 1 1 1 1; letter aa 1 1 1 1; reader aaa 1 1 1;");
        fault("letter a 1 1 1 1; letter a 1 1 1 10;", 3, 25);
        fault("letter a 1 10 1 1; letter a 1 1 1 1;", 5, 11);
    }

    private static void wrong() {
        fine("letter a 9 9 9 99; reader b 9 9 9; turns 99; wet 100; seed 9999;");
        fault("letter a 10 0 0 0;", 5, 9);
        fault("letter a 0 10 0 0;", 5, 11);
        fault("letter a 0 0 10 0;", 5, 13);
        fault("letter a 0 0 0 100;", 5, 15);
        fault("reader a 10 0 0;", 5, 9);
        fault("reader a 0 10 0;", 5, 11);
        fault("reader a 0 0 10;", 5, 13);
        fault("turns 100;", 5, 6);
        fault("wet 101;", 5, 4);
        fault("wet 101; wet 5;", 5, 4);
        fault("turns 5; turns 100; wet 200;", 5, 15);
        fine("likes = 9999;");
    }

    private static void place() {
        HopeDrawer x = new HopeDrawer();
        Check.feed(x, "seed 1; bad");
        x.read();
        CHECK.due("place of bad", x.place(), 8);
        CHECK.due("place again", x.place(), 8);
        Check.feed(x, "seed 1;");
        CHECK.due("place ahead of the read", x.place(), 8);
        x.read();
        CHECK.due("place without", x.place(), -1);
    }
}
