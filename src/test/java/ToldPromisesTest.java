/** Promises 33 to 36: what is told of a letter unknown, which it is, what to read next. */
public final class ToldPromisesTest {
    private static final Check CHECK = new Check("ToldPromisesTest");
    private static final String FOUR = "letter a 1 2 3 0; letter b 4 2 9 0; letter c 7 2 3 0; letter d 9 5 0 0; reader r 1 1 1;";

    public static void main(String[] args) {
        tell();
        forget();
        which();
        next();
        CHECK.end();
    }

    private static void tell() {
        HopeDrawer x = Check.drawerWith(FOUR);
        CHECK.due("mark -1", x.tell(-1, 1, true), -1);
        CHECK.due("mark 3", x.tell(3, 1, true), -1);
        CHECK.due("v -1", x.tell(0, -1, true), -1);
        CHECK.due("v 10", x.tell(0, 10, true), -1);
        CHECK.due("nothing told", x.count(10), 0);
        for (int i = 0; i < 20; i++) {
            CHECK.due("tell " + i, x.tell(i % 3, i % 10, i % 2 == 0), i);
        }
        CHECK.due("tell 20", x.tell(0, 1, true), -1);
        CHECK.due("twenty told", x.count(10), 20);
        CHECK.due("told is no thing done", x.count(9), 0);
    }

    private static void forget() {
        HopeDrawer x = Check.drawerWith(FOUR);
        CHECK.due("forget none", x.forget(), 0);
        x.tell(0, 1, true);
        x.tell(0, 1, true);
        CHECK.due("forget two", x.forget(), 2);
        CHECK.due("none told", x.count(10), 0);
        CHECK.due("no such k", x.which(1, 0), -1);
        CHECK.due("from 0 on", x.tell(2, 9, false), 0);
    }

    private static void which() {
        HopeDrawer x = Check.drawerWith(FOUR);
        x.tell(0, 4, true);
        x.tell(2, 9, false);
        x.tell(1, 5, false);
        x.tell(0, 7, false);
        int[] bits = {15, 14, 12, 4, 0};
        for (int k = 0; k < 5; k++) {
            CHECK.due("which " + k, x.which(k, 1), bits[k]);
            CHECK.due("how many " + k, x.which(k, 0), Integer.bitCount(bits[k]));
        }
        CHECK.due("k 5", x.which(5, 0), -1);
        CHECK.due("k -1", x.which(-1, 0), -1);
        CHECK.due("what 2", x.which(0, 2), -1);
        CHECK.due("what -1", x.which(0, -1), -1);
        x.days(1);
        x.takeBack(0);
        x.burn(0);
        CHECK.due("burnt ones, too", x.which(0, 1), 15);
        HopeDrawer y = Check.drawerWith(FOUR);
        y.tell(0, 0, true);
        y.tell(0, 0, false);
        CHECK.due("0 or more are all", y.which(1, 1), 15);
        CHECK.due("less than 0 is none", y.which(2, 1), 0);
    }

    private static void next() {
        HopeDrawer x = Check.drawerWith(FOUR);
        // HAND 5, 6, 7 leave two at worst: the least v is 5.
        CHECK.due("next", x.next(0), 5);
        x.tell(0, 5, true);
        CHECK.due("c and d by hand 8", x.next(1), 8);
        x.tell(0, 8, true);
        CHECK.due("of one alone the first of all", x.next(2), 1);
        x.tell(0, 9, false);
        CHECK.due("none is left", x.next(3), -2);
        CHECK.due("k 4", x.next(4), -1);
        CHECK.due("k -1", x.next(-1), -1);
        HopeDrawer y = Check.drawerWith("letter a 5 5 1 0; letter b 5 5 9 0; letter c 5 5 8 0;");
        CHECK.due("by grief", y.next(0), 22);
        HopeDrawer w = Check.drawerWith("letter a 5 5 8 0; letter b 5 5 9 0;");
        CHECK.due("by grief 9", w.next(0), 29);
        StringBuilder alike = new StringBuilder();
        for (int i = 0; i < 7; i++) {
            alike.append("letter l").append((char) ('a' + i)).append(" 5 5 5 0;");
        }
        CHECK.due("of alike letters the first of all", Check.drawerWith(alike.toString()).next(0), 1);
        HopeDrawer v = Check.drawerWith("letter a 5 5 5 1; letter b 5 5 5 9;");
        CHECK.due("the day is no mark", v.next(0), 1);
        HopeDrawer z = Check.drawerWith("letter a 5 1 1 0; letter b 5 2 9 0;");
        CHECK.due("the first mark", z.next(0), 12);
    }
}
