import java.util.function.IntUnaryOperator;

/** The sentences of 'Terms', III, and of promises 15 to 32 that name a boundary case, a test each. */
public final class WouldEdgesTest {
    private static final Sentences S = new Sentences("WouldEdgesTest");
    private static final int[] NO_SUCH = {-2, -3, 7, 8, 31, 32, 33, 64, 100, Integer.MIN_VALUE, Integer.MAX_VALUE};
    private static final int[] NO_SUCH_DAYS = {-1, -2, -60, 61, 62, 100, Integer.MIN_VALUE, Integer.MAX_VALUE};
    private static final String FULL = "letter a 1 0 1 0; letter b 1 1 1 0; letter c 1 2 1 0; letter d 1 3 1 0;"
        + "letter e 1 4 1 0; letter f 1 5 1 0; letter g 1 6 1 0;"
        + "reader p 0 1 1; reader q 1 1 1; reader r 2 1 1; reader s 3 1 1; reader t 4 1 1; reader u 5 1 1;";
    private static final String ALL_BURNT = "letter a 1 1 1 0; reader r 1 1 1; reader s 1 1 1; likes = 0;";

    public static void main(String[] args) {
        nothing();
        dealt();
        stable();
        uneasy();
        favouriteAndCrowd();
        chainAndBundle();
        keepAndBarren();
        change();
        ahead();
        year();
        search();
        S.end(15, 32);
    }

    private static void noSuch(String call, IntUnaryOperator answer, int due) {
        for (int none : NO_SUCH) {
            S.due(call + " " + none, answer.applyAsInt(none), due);
        }
    }

    private static void noSuchDays(String call, IntUnaryOperator answer) {
        for (int n : NO_SUCH_DAYS) {
            S.due(call + " in " + n, answer.applyAsInt(n), -1);
        }
    }

    /** Nobody likes any on day 0, so on day 1 all that came are on the shelf. */
    private static HopeDrawer shelved(String text, String likes) {
        HopeDrawer x = Check.drawerWith(text + "likes = if day < 1 then 0 else " + likes + ";");
        x.days(1);
        return x;
    }

    private static HopeDrawer allBurnt() {
        HopeDrawer x = Check.drawerWith(ALL_BURNT);
        x.days(1);
        x.burn(0);
        return x;
    }

    // ---- nothing happens ----

    private static void nothing() {
        S.holds("Terms", "What would be (nothing happens", WouldEdgesTest::nothingHappens);
        S.holds("Terms", "WET in IN n DAYS and YEAR alone).", WouldEdgesTest::wetAlone);
    }

    private static void nothingHappens() {
        HopeDrawer x = Check.drawerWith(FULL + "turns 1; returns = 1; wet 30; answers = 1;");
        x.days(2);
        x.takeBack(1);
        x.hold(0);
        S.nothingHappens(x, () -> {
            x.dealt(-1);
            x.dealt(1);
            x.stable(1);
            x.uneasy(0);
            x.favourite(0, 0);
            x.crowd(0, 1);
            x.chain(-1);
            x.chain(0);
            x.bundle(0);
            x.keep(0);
            x.barren();
            x.change(0, 2);
            x.changeBest(0);
            x.waiting(60);
            x.first();
            x.then(0, 60, 0);
            x.readerIn(0, 60, 1);
            x.likedIn(60);
            x.year(0, 60, 20);
            x.search(0, 5);
            x.which(0, 1);
            x.next(0);
        });
        S.due("undo is as ahead", x.undo(), true);
        S.due("taken again", x.letter(1, 4), 2);
    }

    private static void wetAlone() {
        HopeDrawer x = Check.drawerWith("letter a 1 1 1 0; letter b 1 1 1 0; reader r 1 1 1; wet 100; returns = 1;");
        S.due("no wet in waiting", x.waiting(1), 1);
        S.due("no wet in first", x.first(), 2);
        S.due("wet in then", x.then(0, 5, 0), 0);
        S.due("wet in readerIn", x.readerIn(0, 5, 0), -2);
        S.due("wet in likedIn", x.likedIn(5), 0);
        S.due("wet in year", x.year(0, 5, 20), 0);
    }

    // ---- DEALT ----

    private static void dealt() {
        S.holds("Terms", "DEALT: all LETTERS on the SHELF, each to one READER at most who has none, each READER one at most",
            WouldEdgesTest::dealtOneAtMost);
        S.holds("Terms", "the most that LIKES of all these pairs can be, added", WouldEdgesTest::dealtMost);
        S.holds("Terms", "to whom, of alike ones the lowest READER for the first LETTER, nobody behind all, then for the next one",
            WouldEdgesTest::dealtAlike);
        S.holds("Terms", "(LIKES 0: to nobody)", WouldEdgesTest::dealtByNone);
        S.holds("Promise 15", "DEALT: how much (i NONE)", WouldEdgesTest::dealtHowMuch);
        S.holds("Promise 15", "(-2: to nobody, not on the SHELF)", WouldEdgesTest::dealtNotOnShelf);
        S.holds("Promise 15", "NONE: no such LETTER.", WouldEdgesTest::dealtNoSuch);
    }

    private static void dealtOneAtMost() {
        HopeDrawer x = shelved("letter a 0 1 1 0; letter b 0 1 1 0; letter c 0 1 1 0; reader r 1 1 1;", "5");
        S.due("one reader has one", x.dealt(-1), 5);
        S.due("a to r", x.dealt(0), 0);
        S.due("b to nobody", x.dealt(1), -2);
        S.due("c to nobody", x.dealt(2), -2);
        HopeDrawer y = shelved("letter a 0 1 1 0; reader r 1 1 1; reader s 1 1 1;", "5");
        S.due("one letter goes to one", y.dealt(-1), 5);
        // A text with fewer letters behind one with more.
        Check.feed(x, "letter a 0 1 1 0; letter b 0 1 1 0; reader r 1 1 1; likes = if day < 1 then 0 else 4;");
        x.read();
        x.days(1);
        S.due("of a smaller text", x.dealt(-1), 4);
        S.due("its a", x.dealt(0), 0);
        S.due("its b", x.dealt(1), -2);
        HopeDrawer z = shelved("letter a 0 1 1 0; letter b 0 1 1 0; letter c 0 1 1 9; reader r 1 1 1; reader s 1 1 1;", "5 + which");
        z.send(0, 1);
        S.due("who has one gets none", z.dealt(-1), 5);
        S.due("b to r", z.dealt(1), 0);
        S.due("with a reader", z.dealt(0), -2);
        S.due("to come", z.dealt(2), -2);
        z.send(1, 0);
        S.due("the shelf is empty", z.dealt(-1), 0);
    }

    private static void dealtMost() {
        // a: 10 with r, 9 with s; b: 9 with r, 1 with s. The most for a alone is not the most.
        HopeDrawer x = shelved("letter a 0 1 1 0; letter b 8 2 1 0; reader r 1 1 1; reader s 1 1 1;",
            "if which < 1 then 10 - (hand / 8) else 9 - hand");
        S.due("18, not 11", x.dealt(-1), 18);
        S.due("a to s", x.dealt(0), 1);
        S.due("b to r", x.dealt(1), 0);
        // Better for a to have nobody: r likes b by 50 and a by 9.
        HopeDrawer y = shelved("letter a 0 1 1 0; letter b 8 2 1 0; reader r 1 1 1;", "if 0 < hand then 50 else 9");
        S.due("b alone", y.dealt(-1), 50);
        S.due("a to nobody", y.dealt(0), -2);
        S.due("b to r", y.dealt(1), 0);
        HopeDrawer full = shelved(FULL, "99");
        S.due("six by 99", full.dealt(-1), 594);
        HopeDrawer six = shelved(FULL, "if apart < 1 then 10 else 9");
        S.due("each their own", six.dealt(-1), 60);
        for (int i = 0; i < 7; i++) {
            S.due("letter " + i, six.dealt(i), i < 6 ? i : -2);
        }
    }

    private static void dealtAlike() {
        HopeDrawer x = shelved("letter a 0 1 1 0; letter b 0 1 1 0; letter c 0 1 1 0;"
            + "reader r 1 1 1; reader s 1 1 1; reader t 1 1 1;", "5");
        for (int i = 0; i < 3; i++) {
            S.due("the lowest for " + i, x.dealt(i), i);
        }
        // a may have r or s; b must have r or nobody: with all alike the first letter has the lowest.
        HopeDrawer y = shelved("letter a 0 1 1 0; letter b 1 1 1 0; reader r 1 1 1; reader s 1 1 1;", "if which < 1 then 5 else 5 - hand * 5");
        S.due("10 by a to s alone", y.dealt(-1), 10);
        S.due("a to s, as b cannot", y.dealt(0), 1);
        S.due("b to r", y.dealt(1), 0);
        // A reader for a rather than nobody, where b instead would be as good.
        HopeDrawer z = shelved("letter a 0 1 1 0; letter b 0 1 1 0; reader r 1 1 1;", "5");
        S.due("nobody is behind all", z.dealt(0), 0);
        S.due("nobody for the next", z.dealt(1), -2);
        HopeDrawer full = shelved(FULL, "7");
        for (int i = 0; i < 7; i++) {
            S.due("letter " + i + " of seven", full.dealt(i), i < 6 ? i : -2);
        }
        // a to r and b to s, or a to s and b to r, are alike: the first letter decides.
        HopeDrawer w = shelved("letter a 0 1 1 0; letter b 1 1 1 0; reader r 1 1 1; reader s 1 1 1; reader t 1 1 1;",
            "if hand < 1 then 5 - which / 2 * 5 else 5");
        S.due("a to the lowest", w.dealt(0), 0);
        S.due("b to the lowest that is left", w.dealt(1), 1);
    }

    private static void dealtByNone() {
        HopeDrawer x = shelved("letter a 0 1 1 0; letter b 9 1 1 0; reader r 1 1 1; reader s 1 1 1;", "hand * (1 - which)");
        S.due("how much", x.dealt(-1), 9);
        S.due("liked by 0 of all", x.dealt(0), -2);
        S.due("liked by r alone", x.dealt(1), 0);
        HopeDrawer y = shelved("letter a 0 1 1 0; reader r 1 1 1;", "1");
        S.due("liked by 1", y.dealt(0), 0);
        HopeDrawer z = shelved("letter a 0 1 1 0; reader r 1 1 1;", "0");
        S.due("all by 0", z.dealt(-1), 0);
        S.due("to nobody", z.dealt(0), -2);
    }

    private static void dealtHowMuch() {
        S.due("a new object", new HopeDrawer().dealt(-1), 0);
        S.due("no readers", shelved("letter a 1 1 1 0;", "9").dealt(-1), 0);
        S.due("no letters", Check.drawerWith("reader r 1 1 1;").dealt(-1), 0);
        S.due("all to come", Check.drawerWith(FULL).dealt(-1), 0);
        S.due("all burnt", allBurnt().dealt(-1), 0);
        S.due("one", shelved("letter a 1 1 1 0; reader r 1 1 1;", "9").dealt(HopeDrawer.NONE), 9);
    }

    private static void dealtNotOnShelf() {
        HopeDrawer x = shelved("letter a 1 1 1 0; letter b 1 1 1 0; letter c 1 1 1 5; letter d 1 1 1 0; reader r 1 1 1; reader s 1 1 1;", "9");
        x.send(0, 0);
        x.burn(1);
        S.due("with a reader", x.dealt(0), -2);
        S.due("burnt", x.dealt(1), -2);
        S.due("to come", x.dealt(2), -2);
        S.due("on the shelf", x.dealt(3), 1);
        x.days(1);
        S.due("none is free", x.dealt(3), -2);
    }

    private static void dealtNoSuch() {
        HopeDrawer x = shelved(FULL, "9");
        noSuch("dealt", x::dealt, -1);
        S.due("the last", x.dealt(6), -2);
        S.due("a new object", new HopeDrawer().dealt(0), -1);
        S.due("letter 1 of one", shelved("letter a 1 1 1 0;", "9").dealt(1), -1);
    }

    // ---- STABLE ----

    private static void stable() {
        S.holds("Terms", "each LETTER asks READERS by RATHERS (the greatest first, of alike ones the first",
            WouldEdgesTest::stableAsks);
        S.holds("Terms", "none that LIKES it by 0)", WouldEdgesTest::stableByNone);
        S.holds("Terms", "each READER keeps the one that they LIKE most of those that asked so far (of alike ones the first by number)",
            WouldEdgesTest::stableKeeps);
        S.holds("Terms", "as long as one that nobody keeps has whom to ask: whom a LETTER has then.",
            WouldEdgesTest::stableGoesOn);
        S.holds("Promise 16", "STABLE: whom a LETTER has (-2: nobody, not on the SHELF)", WouldEdgesTest::stableNobody);
        S.holds("Promise 16", "NONE: no such LETTER.", WouldEdgesTest::stableNoSuch);
    }

    private static void stableAsks() {
        HopeDrawer x = shelved("letter a 1 1 1 0; reader r 1 1 3; reader s 1 1 9; reader t 1 1 9;", "5");
        S.due("the greatest, of alike ones the first", x.stable(0), 1);
        HopeDrawer y = shelved("letter a 1 1 1 0; reader r 1 1 9; reader s 1 1 0;", "5 + which");
        S.due("not by likes", y.stable(0), 0);
        HopeDrawer z = shelved("letter a 1 1 1 0; reader r 1 1 0; reader s 1 1 0; rathers = 0;", "5");
        S.due("rathers of 0 are asked", z.stable(0), 0);
        HopeDrawer w = shelved("letter a 1 1 1 0; reader r 1 1 9; reader s 1 1 9; rathers = 99 + which;", "5");
        S.due("held to 99 they are alike", w.stable(0), 0);
    }

    private static void stableByNone() {
        HopeDrawer x = shelved("letter a 1 1 1 0; reader r 1 1 9; reader s 1 1 1;", "which");
        S.due("r, by 0, is not asked", x.stable(0), 1);
        HopeDrawer y = shelved("letter a 1 1 1 0; reader r 1 1 9;", "0");
        S.due("nobody is asked", y.stable(0), -2);
        HopeDrawer z = shelved("letter a 1 1 1 0; reader r 1 1 9;", "1");
        S.due("by 1 is asked", z.stable(0), 0);
    }

    private static void stableKeeps() {
        HopeDrawer x = shelved("letter a 3 1 1 0; letter b 4 1 1 0; reader r 1 1 9;", "hand");
        S.due("a is put out", x.stable(0), -2);
        S.due("b is liked more", x.stable(1), 0);
        HopeDrawer y = shelved("letter a 3 1 1 0; letter b 3 1 1 0; reader r 1 1 9;", "hand");
        S.due("a, of alike ones", y.stable(0), 0);
        S.due("b has nobody", y.stable(1), -2);
        // a asks s only once r put it out for c; s has b by then and likes both alike: a is kept.
        HopeDrawer z = shelved("letter a 5 1 1 0; letter b 5 9 1 0; letter c 6 1 1 0; reader r 1 1 9; reader s 1 1 5;"
            + "rathers = if 5 < apart then which else patience;", "if which < 1 then hand else 5");
        S.due("c has r", z.stable(2), 0);
        S.due("a, by its number", z.stable(0), 1);
        S.due("b is put out", z.stable(1), -2);
        // The one put out for a higher liking does not come back by its number.
        HopeDrawer w = shelved("letter a 5 1 1 0; letter b 6 1 1 0; letter c 6 1 1 0; reader r 1 1 9;", "hand");
        S.due("b, the first of the most liked", w.stable(1), 0);
        S.due("a not", w.stable(0), -2);
        S.due("c not", w.stable(2), -2);
    }

    private static void stableGoesOn() {
        // All want the first readers; each is put out by the next letter, down to the last reader.
        HopeDrawer x = shelved("letter a 1 1 1 0; letter b 2 1 1 0; letter c 3 1 1 0; letter d 4 1 1 0; letter e 5 1 1 0;"
            + "letter f 6 1 1 0; letter g 7 1 1 0; reader p 1 1 9; reader q 1 1 8; reader r 1 1 7; reader s 1 1 6;"
            + "reader t 1 1 5; reader u 1 1 4;", "hand");
        for (int i = 0; i < 7; i++) {
            S.due("letter " + i, x.stable(i), i == 0 ? -2 : 6 - i);
        }
        HopeDrawer y = shelved("letter a 1 1 1 0; letter b 2 1 1 0; reader r 1 1 9; reader s 1 1 5; reader t 1 1 7;", "hand");
        S.due("b has r", y.stable(1), 0);
        S.due("a asks t ahead of s", y.stable(0), 2);
    }

    private static void stableNobody() {
        HopeDrawer x = shelved("letter a 1 1 1 0; letter b 1 1 1 0; letter c 1 1 1 5; letter d 1 1 1 0; letter e 1 1 1 0;"
            + "reader r 1 1 9; reader s 1 1 1;", "9");
        x.send(0, 0);
        x.burn(1);
        S.due("with a reader", x.stable(0), -2);
        S.due("burnt", x.stable(1), -2);
        S.due("to come", x.stable(2), -2);
        S.due("r has one, so s", x.stable(3), 1);
        S.due("nobody is left", x.stable(4), -2);
        S.due("no readers", shelved("letter a 1 1 1 0;", "9").stable(0), -2);
        // What was asked in an earlier call is not asked again: a had r, and might have asked s.
        HopeDrawer y = shelved("letter a 1 1 1 0; letter b 1 1 1 0; letter c 1 1 1 0; reader r 1 1 9; reader s 1 1 1;", "9");
        S.due("a has r", y.stable(0), 0);
        y.send(1, 1);
        y.send(2, 0);
        S.due("both have one", y.stable(0), -2);
    }

    private static void stableNoSuch() {
        HopeDrawer x = shelved(FULL, "9");
        noSuch("stable", x::stable, -1);
        S.due("NONE", x.stable(-1), -1);
        S.due("a new object", new HopeDrawer().stable(0), -1);
        S.due("letter 1 of one", shelved("letter a 1 1 1 0;", "9").stable(1), -1);
    }

    // ---- UNEASY ----

    private static void uneasy() {
        S.holds("Terms", "UNEASY: pairs of a LETTER that is with a READER now and another READER, who both would rather",
            WouldEdgesTest::uneasyBoth);
        S.holds("Terms", "(RATHERS greater with that one; that one LIKES it more than what they have, none: 0)",
            WouldEdgesTest::uneasyMore);
        S.holds("Terms", "how many; the first by LETTER, then by READER.", WouldEdgesTest::uneasyFirst);
        S.holds("Promise 17", "(10 * the LETTER + the READER; -2: none)", WouldEdgesTest::uneasyNone);
        S.holds("Promise 17", "NONE for others.", WouldEdgesTest::uneasyOthers);
    }

    private static void uneasyBoth() {
        HopeDrawer x = shelved("letter a 1 1 1 0; letter b 5 1 1 0; reader r 1 1 3; reader s 1 1 9;", "hand");
        S.due("on the shelf, none", x.uneasy(0), 0);
        x.send(1, 0);
        S.due("b and s, who has none", x.uneasy(0), 1);
        x.send(0, 1);
        S.due("b and s, who likes b more", x.uneasy(1), 11);
        // a would rather s still, where it is: no other reader.
        S.due("one", x.uneasy(0), 1);
        HopeDrawer y = shelved("letter a 5 1 1 0; letter b 1 1 1 0; reader r 1 1 9; reader s 1 1 3;", "hand");
        y.send(0, 0);
        y.send(1, 1);
        S.due("b would rather r, who would not", y.uneasy(0), 0);
        HopeDrawer z = shelved("letter a 5 1 1 0; letter b 1 1 1 0; reader r 1 1 9; reader s 1 1 3;", "hand");
        z.send(0, 0);
        z.send(1, 1);
        S.due("s would rather a, which would not", z.uneasy(1), -2);
    }

    private static void uneasyMore() {
        HopeDrawer x = shelved("letter a 2 1 1 0; letter b 2 1 1 0; letter c 0 1 1 0; reader r 1 1 3; reader s 1 1 4; reader t 1 1 4;", "hand");
        x.send(0, 1);
        S.due("t's rathers are alike, r's are less", x.uneasy(0), 0);
        x.takeBack(0);
        x.send(0, 0);
        S.due("s and t have none", x.uneasy(0), 2);
        x.send(1, 1);
        S.due("s has one that is liked alike", x.uneasy(0), 1);
        x.takeBack(1);
        x.send(2, 1);
        S.due("s has one that is liked by 0", x.uneasy(0), 2);
        x.takeBack(0);
        x.takeBack(2);
        x.send(2, 0);
        S.due("liked by 0 is not more than none", x.uneasy(0), 0);
        HopeDrawer y = shelved("letter a 1 1 1 0; reader r 1 1 3; reader s 1 1 4;", "hand");
        y.send(0, 0);
        S.due("liked by 1 is more than none", y.uneasy(0), 1);
    }

    private static void uneasyFirst() {
        HopeDrawer x = shelved("letter a 1 1 1 0; letter b 1 1 1 0; reader r 1 1 1; reader s 1 1 1; reader t 1 1 9; reader u 1 1 8;", "5");
        x.send(1, 0);
        x.send(0, 1);
        S.due("four", x.uneasy(0), 4);
        S.due("a and t", x.uneasy(1), 2);
        x.takeBack(0);
        S.due("two", x.uneasy(0), 2);
        S.due("b and t", x.uneasy(1), 12);
        HopeDrawer y = shelved("letter a 1 1 1 0; reader r 1 1 9; reader s 1 1 1;", "5");
        y.send(0, 1);
        S.due("the first of all", y.uneasy(1), 0);
        // The greatest that can be: letter 6 and reader 5.
        HopeDrawer z = shelved(FULL + "rathers = if which < 5 then 0 else 9;", "5");
        z.send(6, 0);
        S.due("the last of all", z.uneasy(1), 65);
        for (int i = 1; i < 5; i++) {
            z.send(i, i);
        }
        S.due("five", z.uneasy(0), 5);
        S.due("b and u", z.uneasy(1), 15);
    }

    private static void uneasyNone() {
        S.due("a new object", new HopeDrawer().uneasy(0), 0);
        S.due("a new object's first", new HopeDrawer().uneasy(1), -2);
        S.due("all burnt", allBurnt().uneasy(1), -2);
        HopeDrawer x = Check.drawerWith("letter a 1 1 1 0; reader r 1 1 1;");
        x.days(1);
        S.due("one reader alone", x.uneasy(0), 0);
        S.due("no first", x.uneasy(1), -2);
    }

    private static void uneasyOthers() {
        HopeDrawer x = Check.drawerWith(FULL);
        noSuch("what", x::uneasy, -1);
        S.due("what -1", x.uneasy(-1), -1);
        S.due("what 2", x.uneasy(2), -1);
    }

    // ---- FAVOURITE and CROWD ----

    private static void favouriteAndCrowd() {
        S.holds("Terms", "FAVOURITE of a READER: the LETTER, not BURNT, that they LIKE most, of alike ones the first.",
            WouldEdgesTest::favouriteFirst);
        S.holds("Promise 18", "-2: all are BURNT, none told", WouldEdgesTest::favouriteNone);
        S.holds("Promise 18", "NONE: no such ones.", WouldEdgesTest::favouriteNoSuch);
        S.holds("Terms", "CROWD of a LETTER: READERS who LIKE it by v (1 .. 99) or more.", WouldEdgesTest::crowdOrMore);
        S.holds("Promise 19", "CROWD (bits)", WouldEdgesTest::crowdBits);
        S.holds("Promise 19", "NONE: no such ones.", WouldEdgesTest::crowdNoSuch);
    }

    private static void favouriteFirst() {
        HopeDrawer x = shelved("letter a 3 1 1 0; letter b 5 1 1 0; letter c 5 1 1 0; letter d 9 1 1 50; reader r 1 1 1;", "hand");
        S.due("one that is to come", x.favourite(0, 0), 3);
        S.due("how much", x.favourite(0, 1), 9);
        HopeDrawer y = shelved("letter a 3 1 1 0; letter b 5 1 1 0; letter c 5 1 1 0; reader r 1 1 1; reader s 1 1 1;", "hand");
        S.due("of alike ones the first", y.favourite(0, 0), 1);
        y.send(1, 1);
        S.due("one that another has", y.favourite(0, 0), 1);
        y.takeBack(1);
        y.burn(1);
        S.due("not a burnt one", y.favourite(0, 0), 2);
        y.burn(2);
        S.due("the last", y.favourite(0, 0), 0);
        S.due("how much by now", y.favourite(0, 1), 3);
        HopeDrawer z = Check.drawerWith("letter a 3 1 1 0; letter b 5 1 1 0; reader r 1 1 1; likes = 0;");
        S.due("liked by 0, the first", z.favourite(0, 0), 0);
        S.due("by 0", z.favourite(0, 1), 0);
    }

    private static void favouriteNone() {
        HopeDrawer x = allBurnt();
        for (int what = 0; what <= 1; what++) {
            S.due("all burnt, what " + what, x.favourite(1, what), -2);
            S.due("none told, what " + what, Check.drawerWith("reader r 1 1 1;").favourite(0, what), -2);
        }
        x.undo();
        S.due("not burnt after all", x.favourite(1, 0), 0);
    }

    private static void favouriteNoSuch() {
        HopeDrawer x = Check.drawerWith(FULL);
        noSuch("reader", r -> x.favourite(r, 0), -1);
        noSuch("what", w -> x.favourite(0, w), -1);
        S.due("reader -1", x.favourite(-1, 0), -1);
        S.due("reader 5", x.favourite(5, 0), 5);
        S.due("reader 6 of six", x.favourite(6, 0), -1);
        S.due("what -1", x.favourite(0, -1), -1);
        S.due("what 2", x.favourite(0, 2), -1);
        S.due("all burnt, no such reader", allBurnt().favourite(2, 0), -1);
        S.due("all burnt, no such what", allBurnt().favourite(0, 2), -1);
        S.due("a new object", new HopeDrawer().favourite(0, 0), -1);
    }

    private static void crowdOrMore() {
        HopeDrawer x = Check.drawerWith("letter a 1 5 1 0; reader r 5 0 1; reader s 5 1 1; reader t 5 9 1; likes = taste * 11;");
        S.due("by 1", x.crowd(0, 1), 6);
        S.due("by 11", x.crowd(0, 11), 6);
        S.due("by 12", x.crowd(0, 12), 4);
        S.due("by 99", x.crowd(0, 99), 4);
        S.due("by 98", x.crowd(0, 98), 4);
        S.due("by 0", x.crowd(0, 0), -1);
        S.due("by 100", x.crowd(0, 100), -1);
    }

    private static void crowdBits() {
        HopeDrawer x = Check.drawerWith(FULL);
        S.due("all six", x.crowd(0, 5), 63);
        S.due("p alone", x.crowd(0, 10), 1);
        S.due("u alone", x.crowd(6, 9), 32);
        S.due("none", x.crowd(6, 11), 0);
        S.due("no readers", Check.drawerWith("letter a 1 1 1 1;").crowd(0, 1), 0);
        HopeDrawer y = Check.drawerWith("letter a 1 1 1 0; reader r 1 1 1; reader s 1 1 1; likes = if day < 1 then 0 else 5;");
        y.days(1);
        y.burn(0);
        S.due("of a burnt one, too", y.crowd(0, 5), 3);
    }

    private static void crowdNoSuch() {
        HopeDrawer x = Check.drawerWith(FULL);
        noSuch("letter", l -> x.crowd(l, 1), -1);
        S.due("letter -1", x.crowd(-1, 1), -1);
        S.due("letter 6", x.crowd(6, 9), 32);
        for (int v : new int[] {0, -1, 100, 101, Integer.MIN_VALUE, Integer.MAX_VALUE}) {
            S.due("v " + v, x.crowd(0, v), -1);
        }
        S.due("a new object", new HopeDrawer().crowd(0, 1), -1);
    }

    // ---- CHAIN and BUNDLE ----

    private static void chainAndBundle() {
        S.holds("Terms", "CHAIN: the longest row of LETTERS (not BURNT)", WouldEdgesTest::chainNotBurnt);
        S.holds("Terms", "each but the first ANSWERING the one ahead, which came on an earlier day", WouldEdgesTest::chainEarlier);
        S.holds("Terms", "the first by the lowest numbers: how many; the i-th.", WouldEdgesTest::chainLowest);
        S.holds("Promise 20", "CHAIN: how many (i NONE)", WouldEdgesTest::chainHowMany);
        S.holds("Promise 20", "NONE: not so many, i below NONE.", WouldEdgesTest::chainNone);
        S.holds("Terms", "BUNDLE of a LETTER: all to which one comes from it by ANSWERS, either way round, itself too.",
            WouldEdgesTest::bundleEitherWay);
        S.holds("Promise 21", "BUNDLE (bits)", WouldEdgesTest::bundleBits);
        S.holds("Promise 21", "NONE: no such LETTER.", WouldEdgesTest::bundleNoSuch);
    }

    private static void chainNotBurnt() {
        HopeDrawer x = Check.drawerWith("letter a 1 1 1 0; letter b 1 2 1 1; letter c 1 3 1 2; letter d 1 9 1 9; reader r 1 1 1;"
            + "likes = 0; answers = 2 - apart;");
        x.days(3);
        S.due("a, b, c", x.chain(-1), 3);
        x.burn(1);
        S.due("without b each is alone", x.chain(-1), 1);
        S.due("a", x.chain(0), 0);
        x.burn(0);
        S.due("without a, c", x.chain(0), 2);
        x.burn(2);
        S.due("d, to come", x.chain(0), 3);
        S.due("all burnt", allBurnt().chain(-1), 0);
        S.due("all burnt, no first", allBurnt().chain(0), -1);
    }

    private static void chainEarlier() {
        HopeDrawer x = Check.drawerWith("letter a 1 1 1 5; letter b 1 1 1 5; letter c 1 1 1 6; answers = 1;");
        S.due("those of one day are in no row", x.chain(-1), 2);
        S.due("a", x.chain(0), 0);
        S.due("c", x.chain(1), 2);
        HopeDrawer y = Check.drawerWith("letter a 1 1 1 9; letter b 1 1 1 5; letter c 1 1 1 0; answers = 1;");
        S.due("by days, not by numbers", y.chain(-1), 3);
        S.due("c first", y.chain(0), 2);
        S.due("then b", y.chain(1), 1);
        S.due("then a", y.chain(2), 0);
        // a is answered by b, b by c, but a row by c of a alone is shorter.
        HopeDrawer z = Check.drawerWith("letter a 1 1 1 0; letter b 1 1 1 3; letter c 1 1 1 6; answers = 4 - age;");
        S.due("each answers the one ahead", z.chain(-1), 3);
        HopeDrawer w = Check.drawerWith("letter a 1 1 1 0; letter b 1 1 1 3; letter c 1 1 1 6; answers = age - 5;");
        S.due("c answers a alone", w.chain(-1), 2);
        S.due("a", w.chain(0), 0);
        S.due("c", w.chain(1), 2);
    }

    private static void chainLowest() {
        // d then a, or d then b, or c then a, or c then b.
        HopeDrawer x = Check.drawerWith("letter a 1 1 1 9; letter b 1 1 1 9; letter c 1 1 1 0; letter d 1 1 1 0; answers = 1;");
        S.due("the lowest first", x.chain(0), 2);
        S.due("the lowest next", x.chain(1), 0);
        // The longest counts ahead of the lowest: a alone, b then c.
        HopeDrawer y = Check.drawerWith("letter a 1 9 1 0; letter b 1 1 1 0; letter c 1 1 1 1; answers = 1 - apart;");
        S.due("two", y.chain(-1), 2);
        S.due("b", y.chain(0), 1);
        // From a one may go on by b or by c, but only by c twice.
        HopeDrawer z = Check.drawerWith("letter a 1 5 1 0; letter b 1 4 1 1; letter c 1 6 1 1; letter d 1 7 1 2; answers = 2 - apart;");
        S.due("three", z.chain(-1), 3);
        S.due("a", z.chain(0), 0);
        S.due("c, not b", z.chain(1), 2);
        S.due("d", z.chain(2), 3);
    }

    private static void chainHowMany() {
        S.due("a new object", new HopeDrawer().chain(-1), 0);
        S.due("one letter", Check.drawerWith("letter a 1 1 1 0;").chain(HopeDrawer.NONE), 1);
        S.due("none answers", Check.drawerWith(FULL).chain(-1), 1);
        HopeDrawer x = Check.drawerWith("letter a 1 1 1 6; letter b 1 1 1 5; letter c 1 1 1 4; letter d 1 1 1 3; letter e 1 1 1 2;"
            + "letter f 1 1 1 1; letter g 1 1 1 0; answers = 2 - age;");
        S.due("all seven", x.chain(-1), 7);
        for (int i = 0; i < 7; i++) {
            S.due("the " + i + "-th", x.chain(i), 6 - i);
        }
        S.due("no eighth", x.chain(7), -1);
    }

    private static void chainNone() {
        HopeDrawer x = Check.drawerWith("letter a 1 1 1 0; letter b 1 1 1 1; letter c 1 1 1 1; answers = 1;");
        S.due("the last", x.chain(1), 1);
        S.due("behind the last", x.chain(2), -1);
        noSuch("chain", x::chain, -1);
        S.due("a new object", new HopeDrawer().chain(0), -1);
    }

    private static void bundleEitherWay() {
        // a answers b, b answers d (by days); c stands alone, though it came on b's day.
        HopeDrawer x = Check.drawerWith("letter a 1 3 1 9; letter b 1 2 1 5; letter c 1 9 1 5; letter d 1 1 1 1; answers = 2 - apart; likes = 0;");
        S.due("from the latest", x.bundle(0), 11);
        S.due("from between", x.bundle(1), 11);
        S.due("itself alone", x.bundle(2), 4);
        S.due("from the earliest", x.bundle(3), 11);
        x.days(6);
        x.burn(1);
        S.due("by a burnt one, too", x.bundle(0), 11);
        HopeDrawer y = Check.drawerWith("letter a 1 1 1 0; letter b 1 1 1 0; letter c 1 1 1 1; answers = 1;");
        S.due("of one day, by way of a later one", y.bundle(0), 7);
        HopeDrawer z = Check.drawerWith("letter a 1 1 1 0; letter b 1 1 1 0; answers = 1;");
        S.due("of one day, each alone", z.bundle(0), 1);
        HopeDrawer all = Check.drawerWith("letter a 1 1 1 0; letter b 1 1 1 6; letter c 1 1 1 1; letter d 1 1 1 5; letter e 1 1 1 2;"
            + "letter f 1 1 1 4; letter g 1 1 1 3; answers = 2 - age;");
        for (int i = 0; i < 7; i++) {
            S.due("all seven from " + i, all.bundle(i), 127);
        }
    }

    private static void bundleBits() {
        HopeDrawer alone = Check.drawerWith(FULL);
        for (int letter = 0; letter < 7; letter++) {
            S.due("alone " + letter, alone.bundle(letter), 1 << letter);
        }
        // The first and the last, by a day between them; all others came on the first one's day.
        HopeDrawer x = Check.drawerWith("letter a 1 9 1 0; letter b 1 1 1 0; letter c 1 1 1 0; letter d 1 1 1 0; letter e 1 1 1 0;"
            + "letter f 1 1 1 0; letter g 1 9 1 1; answers = 1 - apart;");
        S.due("a and g", x.bundle(0), 65);
        S.due("g and a", x.bundle(6), 65);
        S.due("f alone", x.bundle(5), 32);
    }

    private static void bundleNoSuch() {
        HopeDrawer x = Check.drawerWith(FULL);
        noSuch("bundle", x::bundle, -1);
        S.due("bundle -1", x.bundle(-1), -1);
        S.due("the last", x.bundle(6), 64);
        S.due("a new object", new HopeDrawer().bundle(0), -1);
    }

    // ---- KEEP and BARREN ----

    private static void keepAndBarren() {
        S.holds("Terms", "by how much that one LIKES it more than the LETTER on the SHELF that they LIKE most (none: 0).",
            WouldEdgesTest::keepMore);
        S.holds("Promise 22", "KEEP (may be below 0)", WouldEdgesTest::keepBelowNone);
        S.holds("Promise 22", "-100000: no READER has it, no such LETTER.", WouldEdgesTest::keepNoSuch);
        S.holds("Terms", "BARREN: READERS who LIKE no LETTER on the SHELF by more than 0.", WouldEdgesTest::barrenByNone);
        S.holds("Promise 23", "BARREN (bits).", WouldEdgesTest::barrenBits);
    }

    private static void keepMore() {
        HopeDrawer x = shelved("letter a 7 1 1 0; letter b 5 1 1 0; letter c 6 1 1 0; letter d 9 1 1 50; reader r 1 1 1; reader s 1 1 1;", "hand");
        x.send(0, 0);
        S.due("more than c", x.keep(0), 1);
        x.burn(2);
        S.due("more than b", x.keep(0), 2);
        x.send(1, 1);
        S.due("none on the shelf", x.keep(0), 7);
        S.due("of the other one", x.keep(1), 5);
        HopeDrawer y = shelved("letter a 9 1 1 0; letter b 9 1 1 0; reader r 1 1 1;", "hand");
        y.send(0, 0);
        S.due("alike", y.keep(0), 0);
    }

    private static void keepBelowNone() {
        HopeDrawer x = shelved("letter a 0 1 1 0; letter b 9 1 1 0; reader r 1 1 1;", "hand * 11");
        x.send(0, 0);
        S.due("0 against 99", x.keep(0), -99);
        x.takeBack(0);
        x.send(1, 0);
        S.due("99 against 0", x.keep(1), 99);
    }

    private static void keepNoSuch() {
        HopeDrawer x = shelved(FULL, "5");
        S.due("on the shelf", x.keep(0), -100000);
        x.burn(0);
        S.due("burnt", x.keep(0), -100000);
        S.due("to come", Check.drawerWith(FULL).keep(0), -100000);
        noSuch("keep", x::keep, -100000);
        S.due("keep -1", x.keep(-1), -100000);
        x.send(6, 5);
        S.due("the last", x.keep(6), 0);
        S.due("a new object", new HopeDrawer().keep(0), -100000);
    }

    private static void barrenByNone() {
        HopeDrawer x = shelved("letter a 1 1 1 0; letter b 1 9 1 0; letter c 1 5 1 50; reader r 1 1 1; reader s 2 1 1; reader t 3 1 1; reader u 5 1 1;",
            "2 - apart");
        // r likes a by 2, s by 1, t and u by 0.
        S.due("by 1 is enough", x.barren(), 12);
        x.send(0, 3);
        S.due("a is off the shelf", x.barren(), 15);
        x.takeBack(0);
        x.burn(0);
        S.due("a is burnt", x.barren(), 15);
    }

    private static void barrenBits() {
        S.due("a new object", new HopeDrawer().barren(), 0);
        S.due("the shelf is empty", Check.drawerWith(FULL).barren(), 63);
        HopeDrawer x = shelved(FULL, "5");
        S.due("none of six", x.barren(), 0);
        for (int i = 0; i < 6; i++) {
            x.send(i, i);
        }
        S.due("those who have one count, too", x.barren(), 0);
        x.burn(6);
        S.due("all six", x.barren(), 63);
    }

    // ---- CHANGE ----

    private static void change() {
        S.holds("Terms", "by how much more both were liked, added, had each the other's READER", WouldEdgesTest::changeAdded);
        S.holds("Promise 24", "CHANGE (may be below 0)", WouldEdgesTest::changeBelowNone);
        S.holds("Promise 24", "-100000: not both with READERS, no such ones, one and the same.", WouldEdgesTest::changeNoSuch);
        S.holds("Terms", "BEST CHANGE: the two by which that is most, more than 0, of alike ones the first.",
            WouldEdgesTest::changeBestFirst);
        S.holds("Promise 25", "what 0 the two (10 * the lesser + the other), 1 how much; -2: none.", WouldEdgesTest::changeBestNone);
        S.holds("Promise 25", "NONE for others.", WouldEdgesTest::changeBestOthers);
    }

    private static void changeAdded() {
        HopeDrawer x = shelved("letter a 0 1 1 0; letter b 0 9 1 0; reader r 9 1 1; reader s 1 1 1;", "50 - apart");
        x.send(0, 0);
        x.send(1, 1);
        S.due("8 more each", x.change(0, 1), 16);
        S.due("either way", x.change(1, 0), 16);
    }

    private static void changeBelowNone() {
        HopeDrawer x = shelved("letter a 0 0 1 0; letter b 0 9 1 0; reader r 0 1 1; reader s 9 1 1;", "if apart < 1 then 99 else 0");
        x.send(0, 0);
        x.send(1, 1);
        S.due("all that can be lost", x.change(0, 1), -198);
        HopeDrawer y = shelved("letter a 0 0 1 0; letter b 0 9 1 0; reader r 0 1 1; reader s 9 1 1;", "5");
        y.send(0, 0);
        y.send(1, 1);
        S.due("nothing gained", y.change(0, 1), 0);
    }

    private static void changeNoSuch() {
        HopeDrawer x = shelved(FULL, "5");
        x.send(0, 0);
        S.due("one on the shelf", x.change(0, 1), -100000);
        S.due("the other on the shelf", x.change(1, 0), -100000);
        S.due("both on the shelf", x.change(1, 2), -100000);
        x.burn(1);
        S.due("one burnt", x.change(0, 1), -100000);
        S.due("one and the same", x.change(0, 0), -100000);
        S.due("one and the same, on the shelf", x.change(2, 2), -100000);
        noSuch("letter", l -> x.change(l, 0), -100000);
        noSuch("other", l -> x.change(0, l), -100000);
        S.due("letter -1", x.change(-1, 0), -100000);
        S.due("other -1", x.change(0, -1), -100000);
        x.send(6, 5);
        S.due("the first and the last", x.change(0, 6), 0);
        S.due("a new object", new HopeDrawer().change(0, 1), -100000);
    }

    private static void changeBestFirst() {
        // Letters and readers want 0, 1, 2, 3; each two next to one another have the other's reader.
        HopeDrawer x = shelved("letter a 0 0 1 0; letter b 0 1 1 0; letter c 0 2 1 0; letter d 0 3 1 0;"
            + "reader p 0 1 1; reader q 1 1 1; reader r 2 1 1; reader s 3 1 1;", "50 - apart");
        x.send(0, 1);
        x.send(1, 0);
        x.send(2, 3);
        x.send(3, 2);
        S.due("a and b, of alike ones", x.changeBest(0), 1);
        S.due("by 2", x.changeBest(1), 2);
        x.takeBack(0);
        S.due("c and d", x.changeBest(0), 23);
        HopeDrawer y = shelved("letter a 0 0 1 0; letter b 0 1 1 0; letter c 0 9 1 0; reader p 0 1 1; reader q 1 1 1; reader r 9 1 1;", "50 - apart");
        y.send(0, 1);
        y.send(1, 2);
        y.send(2, 0);
        // a, b: 9 + 0 - 1 - 8 apart is 0 more; a, c: 0 + 8 against 1 + 9; b, c: 1 + 0 against 8 + 9.
        S.due("the most, not the first", y.changeBest(0), 12);
        S.due("by 16", y.changeBest(1), 16);
    }

    private static void changeBestNone() {
        HopeDrawer x = shelved("letter a 0 0 1 0; letter b 0 1 1 0; reader p 0 1 1; reader q 1 1 1;", "if apart < 1 then 1 else 0");
        S.due("none with readers", x.changeBest(0), -2);
        x.send(0, 0);
        S.due("one alone", x.changeBest(0), -2);
        x.send(1, 1);
        S.due("less is none", x.changeBest(0), -2);
        S.due("less is none, how much", x.changeBest(1), -2);
        HopeDrawer y = shelved("letter a 0 0 1 0; letter b 0 1 1 0; reader p 0 1 1; reader q 1 1 1;", "7");
        y.send(0, 0);
        y.send(1, 1);
        S.due("0 is none", y.changeBest(0), -2);
        S.due("0 is none, how much", y.changeBest(1), -2);
        // By 1: a is liked by p as by q, b by 1 more.
        HopeDrawer z = shelved("letter a 0 0 1 0; letter b 1 0 1 0; reader p 0 1 1; reader q 0 1 1;", "5 + hand * which");
        z.send(1, 0);
        z.send(0, 1);
        S.due("1 is more than 0", z.changeBest(1), 1);
        S.due("the lesser first", z.changeBest(0), 1);
        HopeDrawer full = shelved("letter a 0 0 1 0; letter b 0 0 1 0; letter c 0 0 1 0; letter d 0 0 1 0; letter e 0 0 1 0;"
            + "letter f 0 5 1 0; letter g 0 9 1 0; reader p 9 1 1; reader q 5 1 1;", "50 - apart");
        full.send(5, 0);
        full.send(6, 1);
        S.due("the last two", full.changeBest(0), 56);
        S.due("a new object", new HopeDrawer().changeBest(0), -2);
        S.due("a new object, how much", new HopeDrawer().changeBest(1), -2);
    }

    private static void changeBestOthers() {
        HopeDrawer x = Check.drawerWith(FULL);
        noSuch("what", x::changeBest, -1);
        S.due("what -1", x.changeBest(-1), -1);
        S.due("what 2", x.changeBest(2), -1);
    }

    // ---- WAITING, FIRST, IN n DAYS ----

    private static void ahead() {
        S.holds("Terms", "WAITING in n DAYS (0 .. 60; no WET): how many are on the SHELF.", WouldEdgesTest::waiting);
        S.holds("Promise 26", "NONE: no such n.", WouldEdgesTest::waitingNoSuch);
        S.holds("Terms", "FIRST: behind how many DAYS (1 .. 60) anything is sent back or BURNT", WouldEdgesTest::firstBehind);
        S.holds("Promise 27", "-2: never.", WouldEdgesTest::firstNever);
        S.holds("Terms", "IN n DAYS (0 .. 60; with WET): where a LETTER is; what a READER has; WANT of a READER",
            WouldEdgesTest::inDays);
        S.holds("Promise 28", "what 0: 0 TO COME, 1 on the SHELF, 2 with a READER, 3 BURNT", WouldEdgesTest::thenWhere);
        S.holds("Promise 28", "1 which READER (-2: none)", WouldEdgesTest::thenWithNobody);
        S.holds("Promise 28", "NONE: no such ones.", WouldEdgesTest::thenNoSuch);
        S.holds("Promise 29", "what 0 the LETTER they have (-2: none), 1 WANT", WouldEdgesTest::readerInNone);
        S.holds("Promise 29", "NONE: no such ones.", WouldEdgesTest::readerInNoSuch);
        S.holds("Terms", "LIKES of all that READERS have, added.", WouldEdgesTest::likedIn);
        S.holds("Promise 30", "NONE: no such n.", WouldEdgesTest::likedInNoSuch);
    }

    private static void waiting() {
        HopeDrawer x = Check.drawerWith("letter a 1 1 1 0; letter b 1 1 1 2; letter c 1 1 1 59; letter d 1 1 1 60; likes = 0; wet 100;");
        int[] days = {0, 1, 2, 3, 59, 60};
        int[] due = {0, 1, 1, 2, 2, 3};
        for (int i = 0; i < days.length; i++) {
            S.due("waiting in " + days[i], x.waiting(days[i]), due[i]);
        }
        // LOT 100 of SEED 7 is 0 on day 5, so that even a WET of 1 makes it wet.
        HopeDrawer z = Check.drawerWith("letter a 1 1 1 5; likes = 0; wet 1; seed 7;");
        S.due("in 6 with wet it is to come", z.then(0, 6, 0), 0);
        S.due("in 6 without", z.waiting(6), 1);
        HopeDrawer y = shelved(FULL, "0");
        S.due("seven now", y.waiting(0), 7);
        S.due("seven in sixty", y.waiting(60), 7);
        y.burn(0);
        S.due("a burnt one does not wait", y.waiting(60), 6);
    }

    private static void waitingNoSuch() {
        HopeDrawer x = Check.drawerWith(FULL);
        noSuchDays("waiting", x::waiting);
        S.due("a new object", new HopeDrawer().waiting(0), 0);
        S.due("a new object in 60", new HopeDrawer().waiting(60), 0);
        S.due("a new object in 61", new HopeDrawer().waiting(61), -1);
    }

    private static void firstBehind() {
        String one = "letter a 1 1 1 0; reader r 1 1 1; wet 100;";
        S.due("behind two", Check.drawerWith(one + "returns = 1;").first(), 2);
        S.due("behind 60", Check.drawerWith(one + "returns = day - 58;").first(), 60);
        S.due("behind 61 is never", Check.drawerWith(one + "returns = day - 59;").first(), -2);
        // LOT 100 of SEED 7 is 0 on day 5, so that even a WET of 1 makes it wet.
        S.due("no wet of 1 either", Check.drawerWith("letter a 1 1 1 5; reader r 1 1 1; returns = 1; wet 1; seed 7;").first(), 7);
        HopeDrawer x = Check.drawerWith("letter a 1 1 1 0; reader r 1 1 1; returns = 1;");
        x.days(1);
        S.due("behind one", x.first(), 1);
        x.days(1);
        S.due("the second time, burnt, behind one", x.first(), 1);
        x.days(1);
        S.due("burnt already", x.first(), -2);
        x.undo();
        S.due("what was sent back ahead does not count", x.first(), 1);
        HopeDrawer y = Check.drawerWith("letter a 1 1 1 0; reader r 1 1 1; returns = if day < 5 then 4 - day else day - 9;");
        y.days(2);
        y.takeBack(0);
        y.days(3);
        S.due("from now on, not from day 0", y.first(), -2);
    }

    private static void firstNever() {
        S.due("a new object", new HopeDrawer().first(), -2);
        S.due("returns by default", Check.drawerWith(FULL).first(), -2);
        S.due("no readers", Check.drawerWith("letter a 1 1 1 0; returns = 1;").first(), -2);
        HopeDrawer x = allBurnt();
        S.due("burnt by hand", x.first(), -2);
        S.due("none is liked", Check.drawerWith("letter a 1 1 1 0; reader r 1 1 1; likes = 0; returns = 1;").first(), -2);
    }

    private static void inDays() {
        // SEED 0, LOTS 63, 26, 45, 12: with WET 46 days 1, 2 and 3 are wet, day 0 is not.
        HopeDrawer x = Check.drawerWith("letter a 1 1 1 0; letter b 1 1 1 1; reader r 1 1 1; reader s 9 1 1; wet 46; turns 3;");
        int[] want = {1, 1, 1, 2, 2};
        for (int n = 0; n <= 4; n++) {
            S.due("a in " + n, x.then(0, n, 0), n == 0 ? 0 : 2);
            S.due("b in " + n, x.then(1, n, 0), 0);
            S.due("r has in " + n, x.readerIn(0, n, 0), n == 0 ? -2 : 0);
            S.due("want in " + n, x.readerIn(0, n, 1), want[n]);
        }
        S.due("b in 60", x.then(1, 60, 0), 2);
        S.due("want in 60, twenty turns", x.readerIn(0, 60, 1), 1);
        // The days are counted on from now.
        HopeDrawer y = Check.drawerWith("letter a 1 1 1 3; reader r 1 1 1;");
        y.days(3);
        S.due("in 0", y.then(0, 0, 0), 0);
        S.due("in 1", y.then(0, 1, 0), 2);
    }

    private static void thenWhere() {
        HopeDrawer x = shelved("letter a 1 1 1 0; letter b 1 1 1 0; letter c 1 1 1 60; letter d 1 1 1 0; reader r 1 1 1;", "1");
        x.send(0, 0);
        x.burn(3);
        int[] where = {2, 1, 0, 3};
        for (int letter = 0; letter < 4; letter++) {
            S.due("letter " + letter + " now", x.then(letter, 0, 0), where[letter]);
            S.due("letter " + letter + " in 59", x.then(letter, 59, 0), where[letter]);
        }
        S.due("c in 60", x.then(2, 60, 0), 1);
    }

    private static void thenWithNobody() {
        HopeDrawer x = Check.drawerWith("letter a 1 1 1 1; reader q 9 1 1; reader r 1 1 1; likes = if day < 2 then 0 else 10 - apart; returns = day - 2;");
        int[] where = {0, 0, 1, 2, 2, 3};
        for (int n = 0; n < where.length; n++) {
            S.due("where in " + n, x.then(0, n, 0), where[n]);
            S.due("with whom in " + n, x.then(0, n, 1), where[n] == 2 ? 1 : -2);
        }
    }

    private static void thenNoSuch() {
        HopeDrawer x = Check.drawerWith(FULL);
        noSuch("letter", l -> x.then(l, 1, 0), -1);
        noSuch("what", w -> x.then(0, 1, w), -1);
        noSuchDays("then", n -> x.then(0, n, 0));
        S.due("letter -1", x.then(-1, 1, 0), -1);
        S.due("letter 6", x.then(6, 1, 0), 1);
        S.due("what -1", x.then(0, 1, -1), -1);
        S.due("what 2", x.then(0, 1, 2), -1);
        S.due("a new object", new HopeDrawer().then(0, 0, 0), -1);
    }

    private static void readerInNone() {
        HopeDrawer x = Check.drawerWith(FULL + "turns 1; returns = 1;");
        S.due("none now", x.readerIn(5, 0, 0), -2);
        S.due("want now", x.readerIn(5, 0, 1), 5);
        S.due("the sixth in 1", x.readerIn(5, 1, 0), 5);
        S.due("want in 4", x.readerIn(5, 4, 1), 9);
        S.due("want in 5", x.readerIn(5, 5, 1), 0);
        S.due("none in 60, all are burnt", x.readerIn(5, 60, 0), -2);
    }

    private static void readerInNoSuch() {
        HopeDrawer x = Check.drawerWith(FULL);
        noSuch("reader", r -> x.readerIn(r, 1, 0), -1);
        noSuch("what", w -> x.readerIn(0, 1, w), -1);
        noSuchDays("readerIn", n -> x.readerIn(0, n, 1));
        S.due("reader -1", x.readerIn(-1, 1, 0), -1);
        S.due("reader 6 of six", x.readerIn(6, 1, 0), -1);
        S.due("what -1", x.readerIn(0, 1, -1), -1);
        S.due("what 2", x.readerIn(0, 1, 2), -1);
        S.due("a new object", new HopeDrawer().readerIn(0, 0, 0), -1);
    }

    private static void likedIn() {
        HopeDrawer x = Check.drawerWith(FULL + "likes = 99;");
        S.due("none now", x.likedIn(0), 0);
        S.due("six by 99", x.likedIn(1), 594);
        S.due("in 60", x.likedIn(60), 594);
        HopeDrawer y = Check.drawerWith("letter a 1 1 1 0; reader r 1 1 1; likes = 10 - day;");
        S.due("as it is on that day", y.likedIn(1), 9);
        S.due("in 10", y.likedIn(10), 0);
        S.due("a new object", new HopeDrawer().likedIn(60), 0);
        HopeDrawer z = Check.drawerWith("letter a 1 1 1 0; reader r 1 1 1; likes = 5 + had;");
        z.days(1);
        S.due("by what was had by then", z.likedIn(0), 6);
    }

    private static void likedInNoSuch() {
        HopeDrawer x = Check.drawerWith(FULL);
        noSuchDays("likedIn", x::likedIn);
        S.due("a new object in 61", new HopeDrawer().likedIn(61), -1);
    }

    // ---- YEAR ----

    private static void year() {
        S.holds("Terms", "YEAR by s SEEDS (1 .. 20) from the text's SEED on", WouldEdgesTest::yearSeeds);
        S.holds("Terms", "in how many of them a LETTER is with a READER in n DAYS (0 .. 60).", WouldEdgesTest::yearDays);
        S.holds("Promise 31", "NONE: no such ones.", WouldEdgesTest::yearNoSuch);
    }

    private static int dryDays(int from, int seeds, int wet) {
        int dry = 0;
        for (int seed = from; seed < from + seeds; seed++) {
            dry += Model.lot(100, seed, 0) >= wet ? 1 : 0;
        }
        return dry;
    }

    /** The first seed but 0 whose LOT 100 of day 0 is this. */
    private static int seedOfLot(int lot) {
        int seed = 1;
        while (Model.lot(100, seed, 0) != lot) {
            seed++;
        }
        return seed;
    }

    private static void yearSeeds() {
        // LOTS of day 0: SEED 0 63, SEED 1 79; SEED 9999 32, 10000 60.
        String one = "letter a 1 1 1 0; reader r 1 1 1;";
        HopeDrawer x = Check.drawerWith(one + "wet 70;");
        S.due("SEED 0 alone is wet", x.year(0, 1, 1), 0);
        S.due("SEED 1 is dry", x.year(0, 1, 2), 1);
        HopeDrawer y = Check.drawerWith(one + "wet 50; seed 9999;");
        S.due("SEED 9999 is wet", y.year(0, 1, 1), 0);
        S.due("10000 is dry", y.year(0, 1, 2), 1);
        for (int s = 1; s <= 20; s++) {
            S.due("from 9999 on, " + s, y.year(0, 1, s), dryDays(9999, s, 50));
            S.due("from 0 on, " + s, x.year(0, 1, s), dryDays(0, s, 70));
        }
        S.due("never wet", Check.drawerWith(one).year(0, 1, 20), 20);
        S.due("always wet", Check.drawerWith(one + "wet 100;").year(0, 60, 20), 0);
        // The only wet seed of two, by a WET of 1; the only dry one, by a WET of 99.
        int wetOne = seedOfLot(0) - 1;
        S.due("wet 1", Check.drawerWith(one + "wet 1; seed " + wetOne + ";").year(0, 1, 2), 1);
        int dryOne = seedOfLot(99) - 1;
        S.due("wet 99", Check.drawerWith(one + "wet 99; seed " + dryOne + ";").year(0, 1, 2), 1);
    }

    private static void yearDays() {
        HopeDrawer x = Check.drawerWith("letter a 1 1 1 59; letter b 1 1 1 0; reader r 1 1 1; reader s 1 1 1; returns = 3 - day;");
        S.due("none is now", x.year(1, 0, 20), 0);
        S.due("all in 1", x.year(1, 1, 20), 20);
        S.due("b is burnt in 3", x.year(1, 3, 20), 0);
        S.due("a is to come in 59", x.year(0, 59, 20), 0);
        S.due("a in 60", x.year(0, 60, 20), 20);
        x.days(1);
        S.due("now, in 0", x.year(1, 0, 7), 7);
        // On the shelf is not with a reader.
        S.due("on the shelf", Check.drawerWith("letter a 1 1 1 0;").year(0, 5, 3), 0);
        HopeDrawer wet = Check.drawerWith("letter a 1 1 1 0; reader r 1 1 1; wet 100;");
        S.due("wet, in 0", wet.year(0, 0, 1), 0);
    }

    private static void yearNoSuch() {
        HopeDrawer x = Check.drawerWith(FULL);
        noSuch("letter", l -> x.year(l, 1, 1), -1);
        noSuchDays("year", n -> x.year(0, n, 1));
        for (int s : new int[] {0, -1, 21, 22, Integer.MIN_VALUE, Integer.MAX_VALUE}) {
            S.due("seeds " + s, x.year(0, 1, s), -1);
        }
        S.due("letter -1", x.year(-1, 1, 1), -1);
        S.due("letter 6", x.year(6, 1, 1), 0);
        S.due("1 seed", x.year(0, 1, 1), 1);
        S.due("20 seeds", x.year(0, 1, 20), 20);
        S.due("a new object", new HopeDrawer().year(0, 0, 1), -1);
    }

    // ---- SEARCH ----

    private static void search() {
        S.holds("Terms", "of two the one is ahead whose LIKES by that is more, of alike ones the first: the i-th.",
            WouldEdgesTest::searchAhead);
        S.holds("Terms", "a drawer of a READER taking PATIENCE + 1 to look through", WouldEdgesTest::searchPatience);
        S.holds("Promise 32", "NONE: no such ones.", WouldEdgesTest::searchNoSuch);
    }

    private static void searched(HopeDrawer x, int... order) {
        for (int i = 0; i < order.length; i++) {
            S.due("search " + i, x.search(0, i), order[i]);
        }
        S.due("behind the last", x.search(0, order.length), -1);
    }

    private static void searchAhead() {
        // TASTE by PATIENCE + 1: 9/10, 8/9, 7/8, 6/7: nearly alike, each more than the next.
        searched(Check.drawerWith("letter a 1 1 1 0; reader r 1 6 6; reader s 1 7 7; reader t 1 8 8; reader u 1 9 9; likes = taste;"), 3, 2, 1, 0);
        // 2/4, 1/2, 3/6 and 0 are alike but for the last.
        searched(Check.drawerWith("letter a 1 1 1 0; reader q 1 0 0; reader r 1 2 3; reader s 1 1 1; reader t 1 3 5; likes = taste;"), 1, 2, 3, 0);
        searched(Check.drawerWith("letter a 1 1 1 0; reader r 1 1 9; reader s 1 1 0; likes = 0;"), 0, 1);
        // 99/10 against 98/10, and against 10/1.
        searched(Check.drawerWith("letter a 1 1 1 0; reader r 1 8 9; reader s 1 9 9; reader t 1 0 0;"
            + "likes = if 0 < taste then 90 + taste else 10;"), 2, 1, 0);
        searched(Check.drawerWith("letter a 1 1 1 0;" + FULL.substring(FULL.indexOf("reader")) + "likes = which;"), 5, 4, 3, 2, 1, 0);
    }

    private static void searchPatience() {
        // PATIENCE 0 takes 1, not 0.
        searched(Check.drawerWith("letter a 1 1 1 0; reader r 1 1 1; reader s 1 1 0; likes = 5;"), 1, 0);
        searched(Check.drawerWith("letter a 1 1 1 0; reader r 1 9 9; reader s 1 1 0; likes = taste;"), 1, 0);
        // 9/9 and 1/1 are alike.
        searched(Check.drawerWith("letter a 1 1 1 0; reader r 1 9 8; reader s 1 1 0; likes = taste;"), 0, 1);
    }

    private static void searchNoSuch() {
        HopeDrawer x = Check.drawerWith(FULL);
        noSuch("letter", l -> x.search(l, 0), -1);
        noSuch("i", i -> x.search(0, i), -1);
        S.due("letter -1", x.search(-1, 0), -1);
        S.due("i -1", x.search(0, -1), -1);
        S.due("the last", x.search(6, 5), 0);
        S.due("i 6 of six", x.search(0, 6), -1);
        S.due("no readers", Check.drawerWith("letter a 1 1 1 1;").search(0, 0), -1);
        S.due("a new object", new HopeDrawer().search(0, 0), -1);
        HopeDrawer y = allBurnt();
        S.due("a burnt one is searched for, too", y.search(0, 1), 1);
    }
}
