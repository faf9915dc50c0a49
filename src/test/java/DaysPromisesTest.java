/** Promises 6 to 14 and 37 to 39: what is, what is done by hand, the days, undone and held things. */
public final class DaysPromisesTest {
    private static final Check CHECK = new Check("DaysPromisesTest");
    private static final String THREE = "letter goat 3 2 5 0; letter list 4 7 1 0; letter vow 3 4 6 2;"
        + "reader ann 2 1 3; reader bob 6 2 9; reader cid 4 3 1;";

    public static void main(String[] args) {
        letter();
        reader();
        tells();
        laws();
        lawsThatDivideByNone();
        answers();
        send();
        takeBack();
        burn();
        days();
        daySendsByLiking();
        dayCountsWhatWasHad();
        dayReturns();
        dayReturnsAsItBegan();
        dayIsWet();
        lots();
        dayTurns();
        undo();
        undoForty();
        hold();
        restore();
        count();
        CHECK.end();
    }

    private static void letter() {
        HopeDrawer x = Check.drawerWith(THREE);
        int[] goat = {3, 2, 5, 0, 0, -2, 0, 0};
        int[] vow = {3, 4, 6, 2, 0, -2, 0, 0};
        for (int what = 0; what < 8; what++) {
            CHECK.due("goat " + what, x.letter(0, what), goat[what]);
            CHECK.due("vow " + what, x.letter(2, what), vow[what]);
        }
        CHECK.due("letter what -1", x.letter(0, -1), -1);
        CHECK.due("letter what 8", x.letter(0, 8), -1);
        CHECK.due("letter 3", x.letter(3, 0), -1);
        CHECK.due("letter -1", x.letter(-1, 0), -1);
        CHECK.due("letter least", x.letter(Integer.MIN_VALUE, 0), -1);
        CHECK.due("letter most", x.letter(Integer.MAX_VALUE, 0), -1);
        x.days(1);
        CHECK.due("goat is with a reader", x.letter(0, 4), 2);
        CHECK.due("goat is with ann", x.letter(0, 5), 0);
        CHECK.due("list is with bob", x.letter(1, 5), 1);
        CHECK.due("vow is to come", x.letter(2, 4), 0);
        CHECK.due("goat's age", x.letter(0, 7), 1);
        CHECK.due("vow's age ahead", x.letter(2, 7), 0);
        x.takeBack(0);
        CHECK.due("goat on the shelf", x.letter(0, 4), 1);
        CHECK.due("goat with nobody", x.letter(0, 5), -2);
        x.burn(0);
        CHECK.due("goat burnt", x.letter(0, 4), 3);
        x.days(9);
        CHECK.due("burnt goat's age", x.letter(0, 7), 10);
        CHECK.due("vow's age", x.letter(2, 7), 8);
    }

    private static void reader() {
        HopeDrawer x = Check.drawerWith(THREE + "turns 1;");
        int[] bob = {6, 2, 9, -2, 0};
        for (int what = 0; what < 5; what++) {
            CHECK.due("bob " + what, x.reader(1, what), bob[what]);
        }
        CHECK.due("reader what -1", x.reader(0, -1), -1);
        CHECK.due("reader what 5", x.reader(0, 5), -1);
        CHECK.due("reader 3", x.reader(3, 0), -1);
        CHECK.due("reader -1", x.reader(-1, 0), -1);
        CHECK.due("reader least", x.reader(Integer.MIN_VALUE, 2), -1);
        x.days(1);
        int[] then = {7, 2, 9, 1, 1};
        for (int what = 0; what < 5; what++) {
            CHECK.due("bob then " + what, x.reader(1, what), then[what]);
        }
    }

    private static void tells() {
        HopeDrawer x = Check.drawerWith(THREE + "returns = grief - 5;");
        CHECK.due("ann likes goat", x.tells(0, 0, 0), 10);
        CHECK.due("bob likes goat", x.tells(0, 1, 0), 6);
        CHECK.due("goat rathers bob", x.tells(0, 1, 1), 9);
        CHECK.due("goat is returned", x.tells(0, 0, 2), 0);
        CHECK.due("vow is returned", x.tells(2, 0, 2), 1);
        CHECK.due("tells what 3", x.tells(0, 0, 3), -1);
        CHECK.due("tells what -1", x.tells(0, 0, -1), -1);
        CHECK.due("tells letter 3", x.tells(3, 0, 0), -1);
        CHECK.due("tells letter -1", x.tells(-1, 0, 0), -1);
        CHECK.due("tells reader 3", x.tells(0, 3, 0), -1);
        CHECK.due("tells reader -1", x.tells(0, -1, 0), -1);
        x.days(1);
        x.takeBack(0);
        x.burn(0);
        CHECK.due("of a burnt one, too", x.tells(0, 0, 0), 10);
    }

    private static void likes(String law, int want) {
        HopeDrawer x = Check.drawerWith("letter a 3 9 5 2; reader q 1 1 1; reader r 2 4 8; likes = " + law + "; turns 0;");
        x.days(7);
        CHECK.due("likes = " + law, x.tells(0, 1, 0), want);
    }

    /** Letter a: hand 3, want 9, grief 5, came on day 2; reader r: want 2, taste 4, patience 8, number 1; day 7. */
    private static void laws() {
        likes("apart", 7);
        likes("hand", 3);
        likes("grief", 5);
        likes("taste", 4);
        likes("patience", 8);
        likes("age", 5);
        likes("day", 7);
        likes("which", 1);
        likes("2 + 3 * 4", 14);
        likes("(2 + 3) * 4", 20);
        likes("20 - 3 - 4", 13);
        likes("20 - (3 - 4)", 21);
        likes("48 / 4 / 2", 6);
        likes("48 / (4 / 2)", 24);
        likes("7 / 2 * 2", 6);
        likes("2 * 3 + 4 * 5 - 6 / 2", 23);
        likes("((((((1 + 2) * 3 - 4) * 2 + 1) * 2 + 1) * 1)) + 1", 24);
        likes("100", 99);
        likes("3 - 4", 0);
        likes("10 + (0 - 7) / 2", 7);
        likes("10 + 7 / (0 - 2)", 7);
        likes("9999 * 9999 * 9999 / 9999 / 9999", 0);
        likes("9999 * 9999 * 50 / 9999 / 9999", 7);
        likes("if 1 < 2 then 3 else 4", 3);
        likes("if 2 < 2 then 3 else 4", 4);
        likes("if 3 < 2 then 3 else if hand < grief then 5 else 6", 5);
        likes("if 3 < 2 then 3 else if grief < hand then 5 else if 1 + 1 < 1 then 1 else if 0 < 1 then 9 else 6", 9);
        likes("if 3 < 2 then 3 else if grief < hand then 5 else if 1 + 1 < 1 then 1 else if 1 < 1 then 9 else 6", 6);
        likes("if 9999 * 9999 * 30 < 0 then 1 else 2", 1);
        HopeDrawer x = Check.drawerWith("letter a 3 9 5 2; reader r 2 4 8; rathers = 50 + hand * 20; likes = had + 1;");
        CHECK.due("rathers held to 99", x.tells(0, 0, 1), 99);
        CHECK.due("none had", x.tells(0, 0, 0), 1);
        HopeDrawer y = Check.drawerWith("letter a 3 9 5 2; reader r 2 4 8; likes = 5 + age;");
        CHECK.due("ahead of its day the age is 0", y.tells(0, 0, 0), 5);
        x.days(3);
        CHECK.due("one had", x.tells(0, 0, 0), 2);
    }

    private static void lawsThatDivideByNone() {
        likes("9 / 0", 0);
        likes("9 / 0 + 5", 0);
        likes("5 + 0 * (9 / 0)", 0);
        likes("0 / 0 + 5", 0);
        likes("if 1 < 2 then 3 else 9 / 0", 3);
        likes("if 2 < 1 then 9 / 0 else 4", 4);
        likes("if 1 < 2 then 9 / 0 else 4", 0);
        likes("if 9 / 0 < 1 then 3 else 4", 0);
        likes("if 1 < 9 / 0 then 3 else 4", 0);
        likes("if 1 < 2 then 3 else if 9 / 0 < 1 then 4 else 5", 3);
        likes("if 2 < 1 then 3 else if 9 / (hand - 3) < 1 then 4 else 5", 0);
        // -2147483648 / -1 wraps.
        likes("if (0 - 2048 * 1024 * 1024) / (0 - 1) < 0 then 7 else 8", 7);
    }

    private static void answered(String law, int want) {
        HopeDrawer x = Check.drawerWith("letter a 2 9 4 3; letter b 3 1 5 7; answers = 1 - (" + law + " - " + want
            + ") * (" + law + " - " + want + ");");
        x.days(6);
        CHECK.due("answers " + law, x.answers(1, 0), 1);
    }

    private static void answers() {
        answered("apart", 8);
        answered("hand", 3);
        answered("grief", 5);
        answered("taste", 2);
        answered("patience", 4);
        answered("age", 4);
        answered("day", 6);
        answered("which", 1);
        answered("had", 0);
        HopeDrawer x = Check.drawerWith("letter a 2 9 4 3; letter b 3 1 5 7; letter c 1 1 1 7; answers = apart - 7;");
        CHECK.due("b answers a", x.answers(1, 0), 1);
        CHECK.due("a answers b", x.answers(0, 1), -1);
        CHECK.due("c answers b on one day", x.answers(2, 1), -1);
        CHECK.due("a answers a", x.answers(0, 0), -1);
        CHECK.due("answers 3", x.answers(3, 0), -1);
        CHECK.due("answers of 3", x.answers(1, 3), -1);
        CHECK.due("answers -1", x.answers(-1, 0), -1);
        CHECK.due("answers of -1", x.answers(1, -1), -1);
        HopeDrawer y = Check.drawerWith("letter a 2 9 4 3; letter b 3 1 5 7;");
        CHECK.due("answers by default", y.answers(1, 0), 0);
    }

    private static void send() {
        HopeDrawer x = Check.drawerWith(THREE + "likes = 0;");
        CHECK.due("send what is to come", x.send(0, 0), false);
        x.days(1);
        CHECK.due("shelf", x.count(4), 3);
        CHECK.due("send 0 2", x.send(0, 2), true);
        CHECK.due("with cid", x.letter(0, 5), 2);
        CHECK.due("cid has it", x.reader(2, 3), 0);
        CHECK.due("cid had one", x.reader(2, 4), 1);
        CHECK.due("send what is with one", x.send(0, 1), false);
        CHECK.due("send to one who has one", x.send(1, 2), false);
        CHECK.due("send 2 to come", x.send(2, 1), false);
        CHECK.due("send 3", x.send(3, 1), false);
        CHECK.due("send -1", x.send(-1, 1), false);
        CHECK.due("send to 3", x.send(1, 3), false);
        CHECK.due("send to -1", x.send(1, -1), false);
        CHECK.due("two things done", x.count(9), 2);
        x.burn(1);
        CHECK.due("send a burnt one", x.send(1, 1), false);
    }

    private static void takeBack() {
        HopeDrawer x = Check.drawerWith(THREE);
        CHECK.due("take what is to come", x.takeBack(0), false);
        x.days(1);
        CHECK.due("take 0", x.takeBack(0), true);
        CHECK.due("ann has none", x.reader(0, 3), -2);
        CHECK.due("ann had one", x.reader(0, 4), 1);
        CHECK.due("on the shelf", x.count(4), 1);
        CHECK.due("not sent back", x.letter(0, 6), 0);
        CHECK.due("take what is on the shelf", x.takeBack(0), false);
        CHECK.due("take 2", x.takeBack(2), false);
        CHECK.due("take 3", x.takeBack(3), false);
        CHECK.due("take -1", x.takeBack(-1), false);
        CHECK.due("two things done", x.count(9), 2);
        CHECK.due("send again", x.send(0, 0), true);
        CHECK.due("ann had two", x.reader(0, 4), 2);
        CHECK.due("all had three", x.count(14), 3);
    }

    private static void burn() {
        HopeDrawer x = Check.drawerWith(THREE);
        CHECK.due("burn what is to come", x.burn(0), false);
        x.days(1);
        CHECK.due("burn what is with one", x.burn(0), false);
        x.takeBack(0);
        CHECK.due("burn 0", x.burn(0), true);
        CHECK.due("burnt", x.count(6), 1);
        CHECK.due("shelf", x.count(4), 0);
        CHECK.due("burn again", x.burn(0), false);
        CHECK.due("burn 3", x.burn(3), false);
        CHECK.due("burn -1", x.burn(-1), false);
        CHECK.due("three things done", x.count(9), 3);
        x.days(5);
        CHECK.due("burnt for good", x.letter(0, 4), 3);
        CHECK.due("not sent back", x.count(13), 0);
    }

    private static void days() {
        HopeDrawer x = Check.drawerWith(THREE);
        CHECK.due("days 0", x.days(0), 0);
        CHECK.due("no thing done", x.count(9), 0);
        CHECK.due("days -1", x.days(-1), -1);
        CHECK.due("days 61", x.days(61), -1);
        CHECK.due("days least", x.days(Integer.MIN_VALUE), -1);
        CHECK.due("nothing happened", x.count(2), 0);
        CHECK.due("days 2", x.days(2), 2);
        CHECK.due("vow is to come on day 2", x.count(3), 4);
        CHECK.due("days 1", x.days(1), 3);
        CHECK.due("vow came", x.letter(2, 5), 2);
        CHECK.due("days 60", x.days(60), 63);
        CHECK.due("three things done", x.count(9), 3);
    }

    private static void daySendsByLiking() {
        HopeDrawer x = Check.drawerWith("letter a 1 5 1 0; letter b 1 5 1 0; letter c 1 5 1 0; letter d 1 5 1 0;"
            + "reader q 9 1 1; reader r 4 1 1; reader s 6 1 1; likes = 4 - apart;");
        x.days(1);
        CHECK.due("a to the first of alike ones", x.letter(0, 5), 1);
        CHECK.due("b to the next", x.letter(1, 5), 2);
        CHECK.due("none for whom one likes by 0", x.letter(2, 4), 1);
        CHECK.due("q has none", x.reader(0, 3), -2);
    }

    private static void dayCountsWhatWasHad() {
        HopeDrawer x = Check.drawerWith("letter a 1 1 1 0; letter b 1 1 1 0; letter c 1 1 1 0; reader r 1 1 1;"
            + "reader s 1 1 1; reader t 1 1 1; likes = if had < 1 then 5 else 9; returns = 0;");
        x.days(1);
        x.takeBack(2);
        x.takeBack(1);
        x.takeBack(0);
        x.burn(1);
        x.send(0, 2);
        x.takeBack(0);
        CHECK.due("t had two", x.reader(2, 4), 2);
        Check.feed(x, "letter a 1 1 1 0; letter b 1 1 1 1; reader r 1 1 1; reader s 1 1 1;"
            + "likes = 5 - had * 4; returns = if day < 1 then 0 else 2 - age;");
        x.read();
        x.days(1);
        CHECK.due("a to r", x.letter(0, 5), 0);
        x.days(1);
        CHECK.due("a, sent back, rather to s", x.letter(0, 5), 1);
        CHECK.due("b, by then, to r", x.letter(1, 5), 0);
        CHECK.due("r had two", x.reader(0, 4), 2);
    }

    private static void dayReturns() {
        HopeDrawer x = Check.drawerWith("letter a 1 1 6 0; letter b 1 1 5 0; reader r 1 1 1; reader s 1 1 1;"
            + "returns = grief - 5;");
        x.days(1);
        CHECK.due("not sent back on the day", x.count(13), 0);
        x.days(1);
        CHECK.due("sent back once", x.letter(0, 6), 1);
        CHECK.due("sent on at once", x.letter(0, 4), 2);
        CHECK.due("had two", x.reader(0, 4), 2);
        CHECK.due("the other one stays", x.letter(1, 6), 0);
        x.days(1);
        CHECK.due("sent back twice", x.letter(0, 6), 2);
        CHECK.due("burnt", x.letter(0, 4), 3);
        CHECK.due("with nobody", x.letter(0, 5), -2);
        CHECK.due("r has none", x.reader(0, 3), -2);
        CHECK.due("sent back in all", x.count(13), 2);
        x.days(5);
        CHECK.due("never more", x.count(13), 2);
    }

    private static void dayReturnsAsItBegan() {
        // On day 1 both come back; a goes ahead of b to the one whom both like.
        HopeDrawer x = Check.drawerWith("letter a 1 5 1 0; letter b 1 1 1 0; reader r 1 1 1; reader s 5 1 1;"
            + "returns = if day < 2 then 1 else 0; likes = if which < 1 then 9 else if day < 1 then 10 - apart else 3;");
        x.days(1);
        CHECK.due("a to s", x.letter(0, 5), 1);
        CHECK.due("b to r", x.letter(1, 5), 0);
        x.days(1);
        CHECK.due("a to r", x.letter(0, 5), 0);
        CHECK.due("b to s", x.letter(1, 5), 1);
        CHECK.due("both sent back", x.count(13), 2);
    }

    private static void dayIsWet() {
        HopeDrawer x = Check.drawerWith("letter a 1 1 6 0; reader r 1 1 1; wet 100; returns = 1;");
        CHECK.due("wet", x.count(12), 1);
        x.days(4);
        CHECK.due("still to come", x.count(3), 1);
        CHECK.due("its age", x.letter(0, 7), 4);
        HopeDrawer y = Check.drawerWith("letter a 1 1 6 0; reader r 1 1 1;");
        CHECK.due("dry", y.count(12), 0);
    }

    private static void lots() {
        for (int seed : new int[] {0, 7, 149, 9999}) {
            for (int wet : new int[] {1, 30, 50, 99}) {
                HopeDrawer x = Check.drawerWith("letter a 1 1 1 0; reader r 1 1 1; seed " + seed + "; wet " + wet + ";");
                boolean came = false;
                for (int day = 0; day < 30; day++) {
                    boolean wetDay = lot(100, seed, 4 * day) < wet;
                    CHECK.due("wet " + wet + " seed " + seed + " day " + day, x.count(12), wetDay ? 1 : 0);
                    x.days(1);
                    came = came || !wetDay;
                    CHECK.due("came by day " + day, x.letter(0, 4), came ? 2 : 0);
                }
            }
        }
    }

    /** The document's steps in longs, which do not wrap here. */
    private static long lot(long n, long seed, long which) {
        long h = seed;
        h = ((h ^ 149) * 1103515245L + 12345) % 4294967296L;
        h = h ^ h / 32768;
        h = ((h ^ which) * 1103515245L + 12345) % 4294967296L;
        h = h ^ h / 32768;
        return h / 2 % n;
    }

    private static void dayTurns() {
        HopeDrawer x = Check.drawerWith("letter a 1 1 1 0; reader r 8 1 1; reader s 0 1 1; turns 3;");
        int[] want = {8, 8, 9, 9, 9, 0, 0, 0, 1};
        for (int day = 0; day < 9; day++) {
            x.days(1);
            CHECK.due("want behind day " + day, x.reader(0, 0), want[day]);
            CHECK.due("other want behind day " + day, x.reader(1, 0), (day + 1) / 3);
        }
        CHECK.due("the letter's want stays", x.letter(0, 1), 1);
        CHECK.due("likes by the want now", x.tells(0, 0, 0), 10);
    }

    private static void undo() {
        HopeDrawer x = Check.drawerWith(THREE + "turns 1; returns = grief - 4;");
        CHECK.due("undo of nothing", x.undo(), false);
        x.days(2);
        x.takeBack(0);
        x.send(0, 2);
        x.takeBack(0);
        x.burn(0);
        CHECK.due("undo burn", x.undo(), true);
        CHECK.due("on the shelf", x.letter(0, 4), 1);
        CHECK.due("undo take", x.undo(), true);
        CHECK.due("with cid", x.letter(0, 5), 2);
        CHECK.due("undo send", x.undo(), true);
        CHECK.due("on the shelf again", x.letter(0, 4), 1);
        CHECK.due("cid had none", x.reader(2, 4), 0);
        x.burn(9);
        x.send(9, 0);
        x.takeBack(9);
        x.days(0);
        x.days(99);
        CHECK.due("undo the first take", x.undo(), true);
        CHECK.due("sent back once", x.letter(0, 6), 1);
        CHECK.due("undo days", x.undo(), true);
        CHECK.due("day 0", x.count(2), 0);
        CHECK.due("want of ann", x.reader(0, 0), 2);
        CHECK.due("not sent back", x.count(13), 0);
        CHECK.due("none had", x.count(14), 0);
        CHECK.due("all to come", x.count(3), 7);
        CHECK.due("undo no more", x.undo(), false);
    }

    private static void undoForty() {
        HopeDrawer x = new HopeDrawer();
        for (int i = 0; i < 45; i++) {
            x.days(1);
            CHECK.due("can be undone", x.count(9), Math.min(40, i + 1));
        }
        for (int i = 0; i < 40; i++) {
            CHECK.due("undo " + i, x.undo(), true);
            CHECK.due("day", x.count(2), 44 - i);
        }
        CHECK.due("undo 41", x.undo(), false);
        CHECK.due("day 5", x.count(2), 5);
        x.days(2);
        CHECK.due("undo anew", x.undo(), true);
        CHECK.due("day 5 again", x.count(2), 5);
    }

    private static void hold() {
        HopeDrawer x = Check.drawerWith(THREE);
        CHECK.due("hold -1", x.hold(-1), false);
        CHECK.due("hold 3", x.hold(3), false);
        CHECK.due("nothing held", x.count(11), 0);
        CHECK.due("hold 2", x.hold(2), true);
        CHECK.due("hold 2 again", x.hold(2), true);
        CHECK.due("one slot", x.count(11), 1);
        CHECK.due("hold 0", x.hold(0), true);
        CHECK.due("two slots", x.count(11), 2);
        CHECK.due("no thing done", x.count(9), 0);
        x.days(1);
        x.hold(1);
        CHECK.due("hold undoes nothing", x.count(9), 1);
        CHECK.due("a new object holds, too", new HopeDrawer().hold(0), true);
    }

    private static void restore() {
        HopeDrawer x = Check.drawerWith(THREE + "turns 1; returns = grief - 4;");
        CHECK.due("restore of nothing", x.restore(0), false);
        x.days(2);
        x.hold(1);
        x.tell(0, 1, true);
        x.takeBack(0);
        x.burn(0);
        x.days(3);
        CHECK.due("restore -1", x.restore(-1), false);
        CHECK.due("restore 3", x.restore(3), false);
        CHECK.due("restore 0", x.restore(0), false);
        CHECK.due("nothing happened", x.count(2), 5);
        CHECK.due("things done", x.count(9), 4);
        CHECK.due("restore 1", x.restore(1), true);
        CHECK.due("day 2", x.count(2), 2);
        CHECK.due("goat with a reader", x.letter(0, 4), 2);
        CHECK.due("sent back", x.count(13), 1);
        CHECK.due("want of ann", x.reader(0, 0), 4);
        CHECK.due("had", x.count(14), 3);
        CHECK.due("nothing can be undone", x.undo(), false);
        CHECK.due("told stays", x.count(10), 1);
        x.days(1);
        CHECK.due("undone, not held", x.undo(), true);
        x.days(7);
        x.hold(0);
        CHECK.due("restore 0 of day 9", x.restore(0), true);
        CHECK.due("day 9", x.count(2), 9);
        CHECK.due("it stays there", x.restore(1), true);
        CHECK.due("day 2 again", x.count(2), 2);
    }

    private static void count() {
        HopeDrawer x = Check.drawerWith(THREE + "letter late 1 1 1 50; returns = grief - 5; wet 0;");
        x.days(3);
        x.takeBack(1);
        x.hold(0);
        x.hold(2);
        x.tell(0, 0, true);
        x.tell(0, 0, true);
        x.tell(0, 0, true);
        Check.feed(x, "abc");
        // goat with ann (10), list on the shelf, vow with cid (10), late to come.
        int[] want = {4, 3, 3, 8, 2, 5, 0, 20, 3, 2, 3, 2, 0, 0, 3, 2};
        for (int what = 0; what < 16; what++) {
            CHECK.due("count " + what, x.count(what), want[what]);
        }
        CHECK.due("all readers without one", Check.drawerWith(THREE).count(15), 7);
        CHECK.due("count -1", x.count(-1), -1);
        CHECK.due("count 16", x.count(16), -1);
        CHECK.due("count least", x.count(Integer.MIN_VALUE), -1);
        x.days(2);
        CHECK.due("burnt", x.count(6), 4);
        CHECK.due("sent back", x.count(13), 2);
        CHECK.due("had", x.count(14), 5);
    }
}
