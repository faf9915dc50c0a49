/** The sentences of 'Terms', IV, and of promises 33 to 36 that name a boundary case, a test each. */
public final class ToldEdgesTest {
    private static final Sentences S = new Sentences("ToldEdgesTest");
    private static final int[] NO_SUCH = {-1, -2, -3, 21, 32, 64, 100, Integer.MIN_VALUE, Integer.MAX_VALUE};
    private static final String FOUR = "letter a 0 2 3 0; letter b 4 2 9 0; letter c 7 2 3 0; letter d 9 5 0 0; reader r 1 1 1;";

    public static void main(String[] args) {
        terms();
        promises();
        S.end(33, 36);
    }

    private static void terms() {
        S.holds("Terms", "TOLD: that a mark (0 HAND, 1 WANT, 2 GRIEF) of a LETTER unknown is v (0 .. 9) or more, or is not",
            ToldEdgesTest::orMore);
        S.holds("Terms", "20 at most, numbered from 0 on", ToldEdgesTest::twenty);
        S.holds("Terms", "KNOWN by k: the first k.", ToldEdgesTest::firstOnes);
        S.holds("Terms", "WHICH: LETTERS (BURNT or not) of which all that is KNOWN is so", ToldEdgesTest::burntOrNot);
        S.holds("Terms", "READ: the mark and v (1 .. 9) by which, once it is told, fewest are left, at worst",
            ToldEdgesTest::fewestAtWorst);
        S.holds("Terms", "of alike ones the first mark, then the least v.", ToldEdgesTest::firstMarkLeastValue);
    }

    private static int left(String text, int mark, int v, boolean so) {
        HopeDrawer x = Check.drawerWith(text);
        x.tell(mark, v, so);
        return x.which(1, 1);
    }

    private static void orMore() {
        // HAND 0, 4, 7, 9.
        S.due("0 or more", left(FOUR, 0, 0, true), 15);
        S.due("not 0 or more", left(FOUR, 0, 0, false), 0);
        S.due("1 or more", left(FOUR, 0, 1, true), 14);
        S.due("4 or more", left(FOUR, 0, 4, true), 14);
        S.due("5 or more", left(FOUR, 0, 5, true), 12);
        S.due("not 4 or more", left(FOUR, 0, 4, false), 1);
        S.due("not 5 or more", left(FOUR, 0, 5, false), 3);
        S.due("9 or more", left(FOUR, 0, 9, true), 8);
        S.due("not 9 or more", left(FOUR, 0, 9, false), 7);
        S.due("want 5 or more", left(FOUR, 1, 5, true), 8);
        S.due("want 2 or more", left(FOUR, 1, 2, true), 15);
        S.due("grief 3 or more", left(FOUR, 2, 3, true), 7);
        S.due("not grief 4 or more", left(FOUR, 2, 4, false), 13);
    }

    private static void twenty() {
        HopeDrawer x = Check.drawerWith(FOUR);
        for (int i = 0; i < 20; i++) {
            S.due("the number " + i, x.tell(0, i < 19 ? 0 : 9, true), i);
        }
        S.due("no 21st", x.tell(0, 0, false), -1);
        S.due("twenty", x.count(10), 20);
        S.due("known by nineteen", x.which(19, 1), 15);
        S.due("known by twenty, the last counts", x.which(20, 1), 8);
        x.forget();
        S.due("from 0 on again", x.tell(0, 0, true), 0);
    }

    private static void firstOnes() {
        HopeDrawer x = Check.drawerWith(FOUR);
        x.tell(0, 4, true);
        x.tell(0, 7, false);
        x.tell(2, 9, false);
        int[] bits = {15, 14, 2, 0};
        for (int k = 0; k <= 3; k++) {
            S.due("the first " + k, x.which(k, 1), bits[k]);
        }
        S.due("next by none of them", x.next(0), 5);
        S.due("next by one", x.next(1), 5);
        S.due("next by two", x.next(2), 1);
        S.due("next by three", x.next(3), -2);
    }

    private static void burntOrNot() {
        HopeDrawer x = Check.drawerWith(FOUR + "likes = 0;");
        S.due("to come", x.which(0, 1), 15);
        x.days(1);
        x.burn(1);
        x.burn(3);
        S.due("burnt", x.which(0, 1), 15);
        S.due("four", x.which(0, 0), 4);
        x.send(0, 0);
        x.tell(0, 4, true);
        S.due("burnt ones that are so", x.which(1, 1), 14);
        S.due("next looks at burnt ones, too", x.next(1), 5);
    }

    private static void fewestAtWorst() {
        // HAND 0, 4, 7, 9: by 5, 6 or 7 two are left either way.
        S.due("two and two", Check.drawerWith(FOUR).next(0), 5);
        S.due("by 1, the least v", Check.drawerWith("letter a 0 5 5 0; letter b 1 5 5 0;").next(0), 1);
        S.due("by 9, the greatest v", Check.drawerWith("letter a 8 5 5 0; letter b 9 5 5 0;").next(0), 9);
        S.due("by GRIEF 9", Check.drawerWith("letter a 5 5 8 0; letter b 5 5 9 0;").next(0), 29);
        S.due("by WANT 1", Check.drawerWith("letter a 5 0 5 0; letter b 5 1 5 0;").next(0), 11);
        // By HAND one and three, by WANT two and two.
        S.due("at worst", Check.drawerWith("letter a 9 9 0 0; letter b 0 9 0 0; letter c 0 0 0 0; letter d 0 0 0 0;").next(0), 11);
        S.due("of one alone, any", Check.drawerWith("letter a 5 5 5 0;").next(0), 1);
        S.due("of letters that are alike, any", Check.drawerWith("letter a 5 5 5 0; letter b 5 5 5 3;").next(0), 1);
        S.due("of seven that are alike, any", Check.drawerWith("letter a 5 5 5 0; letter b 5 5 5 0; letter c 5 5 5 0;"
            + "letter d 5 5 5 0; letter e 5 5 5 0; letter f 5 5 5 0; letter g 5 5 5 0;").next(0), 1);
        // HAND 0 to 6: by 3 or 4 four are left at worst.
        S.due("of seven", Check.drawerWith("letter a 0 1 1 0; letter b 1 1 1 0; letter c 2 1 1 0; letter d 3 1 1 0;"
            + "letter e 4 1 1 0; letter f 5 1 1 0; letter g 6 1 1 0;").next(0), 3);
        // Only those that are left count.
        HopeDrawer x = Check.drawerWith(FOUR);
        x.tell(0, 5, true);
        S.due("of c and d", x.next(1), 8);
    }

    private static void firstMarkLeastValue() {
        S.due("all marks would do", Check.drawerWith("letter a 2 2 2 0; letter b 6 6 6 0;").next(0), 3);
        S.due("WANT and GRIEF would do", Check.drawerWith("letter a 2 2 2 0; letter b 2 6 6 0;").next(0), 13);
        S.due("a greater v of the first mark", Check.drawerWith("letter a 8 2 2 0; letter b 9 6 6 0;").next(0), 9);
    }

    private static void promises() {
        S.holds("Promise 33", "It is TOLD: its number", ToldEdgesTest::tellNumber);
        S.holds("Promise 33", "NONE, and nothing happens: 20 are there", ToldEdgesTest::tellFull);
        S.holds("Promise 33", "no such mark", ToldEdgesTest::tellNoSuchMark);
        S.holds("Promise 33", "no such v.", ToldEdgesTest::tellNoSuchValue);
        S.holds("Promise 34", "All that was TOLD is forgotten: how many there were.", ToldEdgesTest::forgotten);
        S.holds("Promise 35", "what 0 how many, 1 which (bits)", ToldEdgesTest::whichBits);
        S.holds("Promise 35", "NONE: no such ones.", ToldEdgesTest::whichNoSuch);
        S.holds("Promise 36", "READ, as KNOWN by k (10 * the mark + v)", ToldEdgesTest::nextMarkAndValue);
        S.holds("Promise 36", "-2: none is left", ToldEdgesTest::nextNoneLeft);
        S.holds("Promise 36", "NONE: no such k.", ToldEdgesTest::nextNoSuch);
    }

    private static void tellNumber() {
        HopeDrawer x = new HopeDrawer();
        S.due("of a new object", x.tell(0, 0, true), 0);
        S.due("the next", x.tell(2, 9, false), 1);
        S.due("the same once more", x.tell(2, 9, false), 2);
        S.due("told is no thing done", x.count(9), 0);
    }

    private static void tellFull() {
        HopeDrawer x = Check.drawerWith(FOUR);
        for (int i = 0; i < 20; i++) {
            x.tell(0, 1, true);
        }
        S.nothingHappens(x, () -> {
            S.due("tell", x.tell(0, 9, true), -1);
            S.due("tell again", x.tell(1, 0, false), -1);
        });
        S.due("the last one is as it was", x.which(20, 1), 14);
    }

    private static void tellNoSuchMark() {
        HopeDrawer x = Check.drawerWith(FOUR);
        x.tell(0, 1, true);
        S.nothingHappens(x, () -> {
            for (int mark : NO_SUCH) {
                S.due("mark " + mark, x.tell(mark, 5, true), -1);
            }
            S.due("mark 3, the day", x.tell(3, 5, true), -1);
        });
    }

    private static void tellNoSuchValue() {
        HopeDrawer x = Check.drawerWith(FOUR);
        x.tell(0, 1, true);
        S.nothingHappens(x, () -> {
            for (int v : NO_SUCH) {
                S.due("v " + v, x.tell(0, v, true), -1);
            }
            S.due("v 10", x.tell(0, 10, false), -1);
        });
        S.due("v 0", x.tell(1, 0, true), 1);
        S.due("v 9", x.tell(1, 9, true), 2);
    }

    private static void forgotten() {
        HopeDrawer x = Check.drawerWith(FOUR);
        S.due("none", x.forget(), 0);
        x.tell(0, 9, true);
        S.due("one", x.forget(), 1);
        S.due("none is left", x.count(10), 0);
        S.due("none again", x.forget(), 0);
        for (int i = 0; i < 25; i++) {
            x.tell(0, 9, true);
        }
        S.due("twenty", x.forget(), 20);
        S.due("nothing is known", x.which(0, 1), 15);
        S.due("no first one", x.which(1, 1), -1);
        x.tell(0, 9, false);
        S.due("what was there ahead does not count", x.which(1, 1), 7);
    }

    private static void whichBits() {
        HopeDrawer x = Check.drawerWith("letter a 1 1 1 0; letter b 1 1 1 0; letter c 1 1 1 0; letter d 1 1 1 0;"
            + "letter e 1 1 1 0; letter f 1 1 1 0; letter g 9 1 1 0;");
        S.due("seven", x.which(0, 0), 7);
        S.due("all seven", x.which(0, 1), 127);
        x.tell(0, 9, true);
        S.due("one", x.which(1, 0), 1);
        S.due("the last", x.which(1, 1), 64);
        x.tell(0, 9, false);
        S.due("none", x.which(2, 0), 0);
        S.due("no bits", x.which(2, 1), 0);
        S.due("of a new object", new HopeDrawer().which(0, 0), 0);
    }

    private static void whichNoSuch() {
        HopeDrawer x = Check.drawerWith(FOUR);
        x.tell(0, 1, true);
        S.due("k 1 of one", x.which(1, 0), 3);
        S.due("k 2 of one", x.which(2, 0), -1);
        for (int none : NO_SUCH) {
            S.due("k " + none, x.which(none, 0), -1);
            S.due("what " + none, x.which(0, none), -1);
        }
        S.due("what 2", x.which(0, 2), -1);
        S.due("new object, k 1", new HopeDrawer().which(1, 0), -1);
        for (int i = 1; i < 20; i++) {
            x.tell(0, 1, true);
        }
        S.due("k 20 of twenty", x.which(20, 0), 3);
        S.due("k 21 of twenty", x.which(21, 0), -1);
    }

    private static void nextMarkAndValue() {
        // Two letters that differ in one mark, by one: that mark, and the greater one's value.
        for (int mark = 0; mark <= 2; mark++) {
            for (int v = 1; v <= 9; v++) {
                String less = "4 4 4".substring(0, 2 * mark) + (v - 1) + "4 4 4".substring(2 * mark + 1);
                String more = "4 4 4".substring(0, 2 * mark) + v + "4 4 4".substring(2 * mark + 1);
                HopeDrawer x = Check.drawerWith("letter a " + more + " 0; letter b " + less + " 0;");
                S.due(more + " and " + less, x.next(0), 10 * mark + v);
                x.tell(mark, v, true);
                S.due("which it is then", x.which(1, 1), 1);
            }
        }
    }

    private static void nextNoneLeft() {
        HopeDrawer x = Check.drawerWith(FOUR);
        x.tell(0, 9, true);
        x.tell(0, 9, false);
        S.due("one is left", x.next(1), 1);
        S.due("none is left", x.next(2), -2);
        S.due("of a new object", new HopeDrawer().next(0), -2);
        S.due("of a text without letters", Check.drawerWith("reader r 1 1 1;").next(0), -2);
    }

    private static void nextNoSuch() {
        HopeDrawer x = Check.drawerWith(FOUR);
        S.due("k 1 of none", x.next(1), -1);
        x.tell(0, 1, true);
        S.due("k 1 of one", x.next(1), 5);
        S.due("k 2 of one", x.next(2), -1);
        for (int none : NO_SUCH) {
            S.due("k " + none, x.next(none), -1);
        }
        S.due("new object, k 1", new HopeDrawer().next(1), -1);
        for (int i = 1; i < 20; i++) {
            x.tell(0, 1, true);
        }
        S.due("k 20 of twenty", x.next(20), 5);
        S.due("k 21 of twenty", x.next(21), -1);
    }
}
