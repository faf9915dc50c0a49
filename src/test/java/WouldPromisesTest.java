/** Promises 15 to 32: what would be. */
public final class WouldPromisesTest {
    private static final Check CHECK = new Check("WouldPromisesTest");
    /** On the shelf behind the first day are all, as nobody likes any on it. */
    private static final String FROM_DAY_ONE = "if day < 1 then 0 else ";

    public static void main(String[] args) {
        dealt();
        dealtOfAlikeOnes();
        dealtToNobody();
        stable();
        stableKeepsTheFirst();
        uneasy();
        favourite();
        crowd();
        chain();
        chainByLowestNumbers();
        bundle();
        keep();
        barren();
        change();
        changeBest();
        waiting();
        first();
        then();
        readerIn();
        likedIn();
        year();
        search();
        nothingHappens();
        fullOffice();
        CHECK.end();
    }

    private static HopeDrawer shelved(String text, String likes) {
        HopeDrawer x = Check.drawerWith(text + "likes = " + FROM_DAY_ONE + likes + ";");
        x.days(1);
        return x;
    }

    private static void dealt() {
        // r likes both by 11, s by 1.
        HopeDrawer x = shelved("letter a 0 1 1 0; letter b 0 2 1 0; letter c 1 1 1 50; reader r 1 1 1; reader s 1 1 1;",
            "if which < 1 then 11 else 1");
        CHECK.due("no such letter", x.dealt(3), -1);
        CHECK.due("below none", x.dealt(-2), -1);
        CHECK.due("how much", x.dealt(-1), 12);
        CHECK.due("a of alike ones to the lowest", x.dealt(0), 0);
        CHECK.due("b", x.dealt(1), 1);
        CHECK.due("c is to come", x.dealt(2), -2);
        HopeDrawer y = shelved("letter a 0 1 1 0; letter b 8 2 1 0; reader r 1 1 1; reader s 1 1 1;",
            "if which < 1 then 10 - (hand / 8) else 9 - hand");
        // a: 10 with r, 9 with s; b: 9 with r, 1 with s.
        CHECK.due("more together", y.dealt(-1), 18);
        CHECK.due("a to s", y.dealt(0), 1);
        CHECK.due("b to r", y.dealt(1), 0);
        y.send(0, 0);
        CHECK.due("what is left", y.dealt(-1), 1);
        CHECK.due("a is with one", y.dealt(0), -2);
        CHECK.due("b to who has none", y.dealt(1), 1);
        HopeDrawer z = new HopeDrawer();
        CHECK.due("none", z.dealt(-1), 0);
        CHECK.due("none at 0", z.dealt(0), -1);
    }

    private static void dealtOfAlikeOnes() {
        HopeDrawer x = shelved("letter a 0 1 1 0; letter b 0 1 1 0; letter c 0 1 1 0;"
            + "reader r 1 1 1; reader s 1 1 1; reader t 1 1 1;", "5");
        CHECK.due("how much", x.dealt(-1), 15);
        for (int letter = 0; letter < 3; letter++) {
            CHECK.due("letter " + letter, x.dealt(letter), letter);
        }
        x.send(2, 1);
        CHECK.due("a", x.dealt(0), 0);
        CHECK.due("b", x.dealt(1), 2);
    }

    private static void dealtToNobody() {
        // More letters than readers: nobody stands behind all, so the first ones have readers.
        HopeDrawer x = shelved("letter a 0 1 1 0; letter b 0 1 1 0; letter c 0 1 1 0; reader r 1 1 1;", "5");
        CHECK.due("a", x.dealt(0), 0);
        CHECK.due("b", x.dealt(1), -2);
        CHECK.due("c", x.dealt(2), -2);
        HopeDrawer y = shelved("letter a 0 1 1 0; letter b 9 1 1 0; reader r 1 1 1; reader s 1 1 1;",
            "hand * (1 - which)");
        CHECK.due("how much", y.dealt(-1), 9);
        CHECK.due("liked by 0 to nobody", y.dealt(0), -2);
        CHECK.due("b", y.dealt(1), 0);
    }

    private static void stable() {
        // Both letters would rather s (patience 9); s likes b more.
        HopeDrawer x = shelved("letter a 1 1 1 0; letter b 5 1 1 0; letter c 1 1 1 50; reader r 1 1 3; reader s 1 1 9;", "hand");
        CHECK.due("a", x.stable(0), 0);
        CHECK.due("b", x.stable(1), 1);
        CHECK.due("c is to come", x.stable(2), -2);
        CHECK.due("no such letter", x.stable(3), -1);
        CHECK.due("no such letter below", x.stable(-1), -1);
        x.send(1, 1);
        CHECK.due("b is with one", x.stable(1), -2);
        CHECK.due("a asks who has none", x.stable(0), 0);
        // None that likes it by 0 is asked, and rathers of 0 do not hinder.
        HopeDrawer y = shelved("letter a 1 1 1 0; letter b 2 1 1 0; reader r 1 1 0; reader s 1 1 9;", "hand - which");
        CHECK.due("a asks r alone", y.stable(0), 0);
        CHECK.due("b asks s", y.stable(1), 1);
        // Put out by one who was put out: a chain of asks.
        HopeDrawer z = shelved("letter a 3 1 1 0; letter b 2 1 1 0; letter c 1 1 1 0; reader r 1 1 9; reader s 1 1 5;", "10 - hand");
        CHECK.due("c has r", z.stable(2), 0);
        CHECK.due("b has s", z.stable(1), 1);
        CHECK.due("a has nobody", z.stable(0), -2);
    }

    private static void stableKeepsTheFirst() {
        HopeDrawer x = shelved("letter a 3 1 1 0; letter b 3 1 1 0; reader r 1 1 4; reader s 1 1 4;", "7");
        CHECK.due("a asks the first of alike ones", x.stable(0), 0);
        CHECK.due("b is not kept by r", x.stable(1), 1);
        // All ask r first. c puts a out, who then puts b out of s, as s likes them alike.
        String three = "letter a 5 4 1 0; letter b 5 5 1 0; letter c 6 5 1 0; reader r 1 1 9; reader s 1 1 5;";
        HopeDrawer y = shelved(three, "if which < 1 then hand else 5");
        CHECK.due("c has r", y.stable(2), 0);
        CHECK.due("a has s", y.stable(0), 1);
        CHECK.due("b has nobody", y.stable(1), -2);
        // s likes a by 1 less than b, so b stays.
        HopeDrawer z = shelved(three, "if which < 1 then hand else apart");
        CHECK.due("c has r again", z.stable(2), 0);
        CHECK.due("a has nobody", z.stable(0), -2);
        CHECK.due("b stays with s", z.stable(1), 1);
    }

    private static void uneasy() {
        HopeDrawer x = shelved("letter a 1 1 1 0; letter b 5 1 1 0; reader r 1 1 3; reader s 1 1 9; reader t 1 1 9;", "hand");
        CHECK.due("none with readers", x.uneasy(0), 0);
        CHECK.due("no first", x.uneasy(1), -2);
        x.send(0, 1);
        x.send(1, 0);
        // b would rather s (9 above 3) who likes b more than a; and t, who has none.
        CHECK.due("two", x.uneasy(0), 2);
        CHECK.due("b and s", x.uneasy(1), 11);
        CHECK.due("what 2", x.uneasy(2), -1);
        CHECK.due("what -1", x.uneasy(-1), -1);
        x.takeBack(0);
        x.send(0, 2);
        x.takeBack(1);
        x.send(1, 1);
        CHECK.due("none gains by alike ones", x.uneasy(0), 0);
        HopeDrawer y = shelved("letter a 0 1 1 0; letter b 1 1 1 0; reader r 1 1 3; reader s 1 1 9; reader t 1 1 1;", "hand");
        y.send(0, 0);
        CHECK.due("liked by 0 is not more than none", y.uneasy(0), 0);
        y.send(1, 2);
        // b would rather r, who likes it by 1 and what they have by 0, and s, who has none.
        CHECK.due("liked by 1 is more", y.uneasy(0), 2);
        CHECK.due("b and r", y.uneasy(1), 10);
        y.takeBack(0);
        y.takeBack(1);
        y.burn(0);
        y.send(1, 1);
        CHECK.due("none is better", y.uneasy(0), 0);
        HopeDrawer z = shelved("letter a 1 1 1 0; reader r 1 1 3; reader s 1 1 2;", "hand");
        z.send(0, 1);
        CHECK.due("the first of all", z.uneasy(1), 0);
    }

    private static void favourite() {
        HopeDrawer x = Check.drawerWith("letter a 1 1 1 0; letter b 5 3 1 0; letter c 5 3 1 40; reader r 3 1 3; reader s 9 1 1;"
            + "likes = 5 - apart;");
        CHECK.due("which", x.favourite(0, 0), 1);
        CHECK.due("how much", x.favourite(0, 1), 5);
        CHECK.due("liked by 0, the first", x.favourite(1, 0), 0);
        CHECK.due("by 0", x.favourite(1, 1), 0);
        CHECK.due("what 2", x.favourite(0, 2), -1);
        CHECK.due("what -1", x.favourite(0, -1), -1);
        CHECK.due("reader 2", x.favourite(2, 0), -1);
        CHECK.due("reader -1", x.favourite(-1, 0), -1);
        x.days(1);
        x.takeBack(1);
        x.burn(1);
        CHECK.due("to come, too", x.favourite(0, 0), 2);
        HopeDrawer y = Check.drawerWith("reader r 3 1 3;");
        CHECK.due("none told", y.favourite(0, 0), -2);
        CHECK.due("none told, how much", y.favourite(0, 1), -2);
        HopeDrawer z = Check.drawerWith("letter a 1 1 1 0; reader r 9 1 3; likes = 0;");
        z.days(1);
        z.burn(0);
        CHECK.due("all burnt", z.favourite(0, 0), -2);
        CHECK.due("all burnt, how much", z.favourite(0, 1), -2);
    }

    private static void crowd() {
        HopeDrawer x = Check.drawerWith("letter a 1 5 1 0; reader r 5 1 3; reader s 3 1 1; reader t 9 1 1; likes = 99 - apart * 49;");
        CHECK.due("by 99", x.crowd(0, 99), 1);
        CHECK.due("by 1", x.crowd(0, 1), 3);
        CHECK.due("by 2", x.crowd(0, 2), 1);
        HopeDrawer y = Check.drawerWith("letter a 1 5 1 0; reader r 9 1 3; reader s 5 1 1;");
        CHECK.due("s alone", y.crowd(0, 7), 2);
        CHECK.due("v 0", x.crowd(0, 0), -1);
        CHECK.due("v 100", x.crowd(0, 100), -1);
        CHECK.due("letter 1", x.crowd(1, 1), -1);
        CHECK.due("letter -1", x.crowd(-1, 1), -1);
    }

    private static void chain() {
        HopeDrawer x = Check.drawerWith("letter a 1 1 1 5; letter b 1 2 1 3; letter c 1 3 1 9; letter d 1 9 1 0; reader r 1 1 1;"
            + "answers = 3 - apart;");
        // b (3) <- a (5) <- c (9); d is too far apart.
        CHECK.due("how many", x.chain(-1), 3);
        CHECK.due("the first", x.chain(0), 1);
        CHECK.due("the second", x.chain(1), 0);
        CHECK.due("the third", x.chain(2), 2);
        CHECK.due("no fourth", x.chain(3), -1);
        CHECK.due("below none", x.chain(-2), -1);
        CHECK.due("far above", x.chain(Integer.MAX_VALUE), -1);
        x.days(6);
        x.takeBack(0);
        x.burn(0);
        CHECK.due("without the burnt one", x.chain(-1), 2);
        CHECK.due("b", x.chain(0), 1);
        CHECK.due("c", x.chain(1), 2);
        HopeDrawer y = shelved("letter a 1 1 1 0;", "0");
        CHECK.due("one", y.chain(-1), 1);
        y.burn(0);
        CHECK.due("all burnt", y.chain(-1), 0);
        CHECK.due("all burnt at 0", y.chain(0), -1);
        CHECK.due("none", new HopeDrawer().chain(-1), 0);
        CHECK.due("none at 0", new HopeDrawer().chain(0), -1);
    }

    private static void chainByLowestNumbers() {
        // Two rows of two: e answers b, and d answers c; and one alone.
        HopeDrawer x = Check.drawerWith("letter a 1 5 1 7; letter b 1 1 1 3; letter c 1 9 1 0; letter d 1 9 1 4; letter e 1 1 1 8;"
            + "answers = 1 - apart;");
        CHECK.due("how many", x.chain(-1), 2);
        CHECK.due("the lowest first", x.chain(0), 1);
        CHECK.due("its answer", x.chain(1), 4);
        HopeDrawer y = Check.drawerWith("letter a 1 5 1 7; letter b 1 5 1 7; letter c 1 5 1 3; letter d 1 5 1 3; answers = 1;");
        CHECK.due("lowest of the first ones", y.chain(0), 2);
        CHECK.due("lowest of the next ones", y.chain(1), 0);
        HopeDrawer z = Check.drawerWith("letter a 1 5 1 7; letter b 1 5 1 7;");
        CHECK.due("one alone is a row", z.chain(-1), 1);
        CHECK.due("the lowest", z.chain(0), 0);
        // A row goes on only from a letter that is answered: c, then a or b by the day.
        HopeDrawer w = Check.drawerWith("letter a 1 5 1 1; letter b 1 5 1 2; letter c 1 5 1 3; answers = day;");
        CHECK.due("on day 0", w.chain(-1), 1);
        w.days(1);
        CHECK.due("on day 1", w.chain(-1), 3);
    }

    private static void bundle() {
        HopeDrawer x = Check.drawerWith("letter a 1 1 1 5; letter b 1 2 1 3; letter c 1 3 1 9; letter d 1 9 1 0; letter e 1 9 1 0;"
            + "reader r 1 1 1; answers = 2 - apart;");
        CHECK.due("a", x.bundle(0), 7);
        CHECK.due("b", x.bundle(1), 7);
        CHECK.due("c, by way of b", x.bundle(2), 7);
        CHECK.due("d alone, as e came on the same day", x.bundle(3), 8);
        CHECK.due("letter 5", x.bundle(5), -1);
        CHECK.due("letter -1", x.bundle(-1), -1);
        x.days(4);
        x.takeBack(1);
        x.burn(1);
        CHECK.due("burnt ones, too", x.bundle(2), 7);
        HopeDrawer y = Check.drawerWith("letter a 1 1 1 0; letter b 1 2 1 0; letter c 1 3 1 5; answers = 1;");
        for (int letter = 0; letter < 3; letter++) {
            CHECK.due("two that one answers, from " + letter, y.bundle(letter), 7);
        }
    }

    private static void keep() {
        HopeDrawer x = shelved("letter a 3 1 1 0; letter b 5 1 1 0; letter c 9 1 1 50; reader r 1 1 3; reader s 1 1 9;", "hand");
        CHECK.due("on the shelf", x.keep(0), -100000);
        CHECK.due("to come", x.keep(2), -100000);
        CHECK.due("letter 3", x.keep(3), -100000);
        CHECK.due("letter -1", x.keep(-1), -100000);
        x.send(0, 0);
        CHECK.due("less than what is there", x.keep(0), -2);
        x.send(1, 1);
        CHECK.due("none on the shelf", x.keep(0), 3);
        x.takeBack(0);
        CHECK.due("more than what is there", x.keep(1), 2);
    }

    private static void barren() {
        HopeDrawer x = shelved("letter a 3 1 1 0; letter b 5 4 1 0; letter c 5 9 1 50; reader r 1 1 3; reader s 4 1 9; reader t 9 1 1;",
            "3 - apart");
        CHECK.due("t likes none", x.barren(), 4);
        x.send(0, 0);
        CHECK.due("r likes none that is there", x.barren(), 5);
        x.send(1, 1);
        CHECK.due("the shelf is empty", x.barren(), 7);
        CHECK.due("no readers", new HopeDrawer().barren(), 0);
    }

    private static void change() {
        HopeDrawer x = shelved("letter a 0 5 1 0; letter b 0 6 1 0; letter c 0 6 1 0; reader r 6 1 3; reader s 0 1 9;", "20 - apart");
        CHECK.due("on the shelf", x.change(0, 1), -100000);
        x.send(0, 0);
        x.send(1, 1);
        CHECK.due("more", x.change(0, 1), 2);
        CHECK.due("either way", x.change(1, 0), 2);
        CHECK.due("one and the same", x.change(0, 0), -100000);
        CHECK.due("one on the shelf", x.change(0, 2), -100000);
        CHECK.due("the other one on the shelf", x.change(2, 0), -100000);
        CHECK.due("letter 3", x.change(0, 3), -100000);
        CHECK.due("letter -1", x.change(-1, 0), -100000);
        x.takeBack(0);
        x.takeBack(1);
        x.send(0, 1);
        x.send(1, 0);
        CHECK.due("less", x.change(0, 1), -2);
    }

    private static void changeBest() {
        HopeDrawer x = shelved("letter a 0 1 1 0; letter b 0 2 1 0; letter c 0 3 1 0; reader r 1 1 3; reader s 2 1 9; reader t 3 1 1;",
            "20 - apart * apart");
        CHECK.due("none with readers", x.changeBest(0), -2);
        CHECK.due("none, how much", x.changeBest(1), -2);
        x.send(0, 1);
        x.send(1, 2);
        x.send(2, 0);
        // Now 19 + 19 + 16. a, b: 16 + 20 - 38; a, c: 20 + 19 - 35; b, c: 19 + 20 - 35.
        CHECK.due("the first of alike ones", x.changeBest(0), 2);
        CHECK.due("how much", x.changeBest(1), 4);
        CHECK.due("what 2", x.changeBest(2), -1);
        CHECK.due("what -1", x.changeBest(-1), -1);
        HopeDrawer w = shelved("letter a 0 9 1 0; letter b 0 2 1 0; letter c 0 1 1 0; reader r 1 1 3; reader s 2 1 9; reader t 9 1 1;",
            "if apart < 1 then 11 else if apart < 2 then 10 + which else 10");
        w.send(0, 2);
        w.send(1, 0);
        w.send(2, 1);
        // b, c: 11 + 11 - 10 - 11.
        CHECK.due("by 1", w.changeBest(1), 1);
        CHECK.due("b and c", w.changeBest(0), 12);
        HopeDrawer y = shelved("letter a 0 1 1 0; letter b 0 1 1 0; reader r 1 1 3; reader s 2 1 9;", "9");
        y.send(0, 0);
        y.send(1, 1);
        CHECK.due("by 0 is none", y.changeBest(0), -2);
        CHECK.due("by 0, how much", y.changeBest(1), -2);
    }

    private static void waiting() {
        HopeDrawer x = Check.drawerWith("letter a 0 1 1 0; letter b 0 1 1 2; letter c 0 1 1 3; reader r 1 1 3; wet 100;");
        int[] want = {0, 0, 0, 1, 2, 2};
        for (int n = 0; n < 6; n++) {
            CHECK.due("waiting " + n + " without wet", x.waiting(n), want[n]);
        }
        CHECK.due("waiting 60", x.waiting(60), 2);
        HopeDrawer y = Check.drawerWith("letter a 0 1 1 0; wet 1; seed " + seedOfLotNone() + ";");
        CHECK.due("a wet day", y.count(12), 1);
        CHECK.due("not wet in waiting", y.waiting(1), 1);
        CHECK.due("waiting 61", x.waiting(61), -1);
        CHECK.due("waiting -1", x.waiting(-1), -1);
    }

    private static void first() {
        HopeDrawer x = Check.drawerWith("letter a 0 1 1 2; reader r 1 1 3; returns = age - 3; wet 100;");
        // It is sent on day 2 and comes back on day 6, as age is 4: behind 7 days.
        CHECK.due("without wet", x.first(), 7);
        x.days(2);
        CHECK.due("two days on", x.first(), 5);
        HopeDrawer y = Check.drawerWith("letter a 0 1 1 2; reader r 1 1 3; returns = 60 - day;");
        y.days(4);
        CHECK.due("once more is once again", y.first(), 1);
        y.days(2);
        CHECK.due("none is left", y.first(), -2);
        HopeDrawer z = Check.drawerWith("letter a 0 1 1 0; reader r 1 1 3; returns = day - 58;");
        CHECK.due("behind 60", z.first(), 60);
        HopeDrawer w = Check.drawerWith("letter a 0 1 1 0; reader r 1 1 3; returns = day - 59;");
        CHECK.due("behind 61 is never", w.first(), -2);
        HopeDrawer v = Check.drawerWith("letter a 0 1 1 0; reader r 1 1 1; returns = 1; wet 1; seed " + seedOfLotNone() + ";");
        CHECK.due("not wet in first", v.first(), 2);
        CHECK.due("none", new HopeDrawer().first(), -2);
    }

    /** A seed whose lot of day 0 is 0, so that even a wet of 1 makes it wet. */
    private static int seedOfLotNone() {
        int seed = 0;
        while (Model.lot(100, seed, 0) != 0) {
            seed++;
        }
        return seed;
    }

    private static void then() {
        HopeDrawer x = Check.drawerWith("letter a 0 1 1 9; letter b 0 1 1 1; reader r 1 1 3; returns = 4 - day;");
        // b comes on day 1, is sent back and sent on day 2, is sent back and burnt on day 3.
        int[] where = {0, 0, 2, 2, 3};
        for (int n = 0; n < 5; n++) {
            CHECK.due("b in " + n, x.then(1, n, 0), where[n]);
            CHECK.due("b's reader in " + n, x.then(1, n, 1), where[n] == 2 ? 0 : -2);
        }
        CHECK.due("a in 60", x.then(0, 60, 0), 2);
        CHECK.due("what 2", x.then(0, 1, 2), -1);
        CHECK.due("what -1", x.then(0, 1, -1), -1);
        CHECK.due("n 61", x.then(0, 61, 0), -1);
        CHECK.due("n -1", x.then(0, -1, 0), -1);
        CHECK.due("letter 2", x.then(2, 1, 0), -1);
        CHECK.due("letter -1", x.then(-1, 1, 0), -1);
        HopeDrawer y = Check.drawerWith("letter a 0 1 1 2; reader r 1 1 3; wet 100;");
        CHECK.due("with wet", y.then(0, 9, 0), 0);
    }

    private static void readerIn() {
        HopeDrawer x = Check.drawerWith("letter a 0 1 1 2; reader r 1 1 3; reader s 9 1 1; turns 2;");
        CHECK.due("has none in 2", x.readerIn(0, 2, 0), -2);
        CHECK.due("want in 2", x.readerIn(0, 2, 1), 2);
        CHECK.due("other want in 2", x.readerIn(1, 2, 1), 0);
        // Both like it by 9 then, r is the first.
        CHECK.due("r has a in 3", x.readerIn(0, 3, 0), 0);
        CHECK.due("s has none in 3", x.readerIn(1, 3, 0), -2);
        CHECK.due("now", x.readerIn(1, 0, 1), 9);
        CHECK.due("what 2", x.readerIn(0, 1, 2), -1);
        CHECK.due("what -1", x.readerIn(0, 1, -1), -1);
        CHECK.due("n 61", x.readerIn(0, 61, 0), -1);
        CHECK.due("n -1", x.readerIn(0, -1, 0), -1);
        CHECK.due("reader 2", x.readerIn(2, 1, 0), -1);
        CHECK.due("reader -1", x.readerIn(-1, 1, 0), -1);
    }

    private static void likedIn() {
        HopeDrawer x = Check.drawerWith("letter a 0 1 1 0; letter b 0 5 1 1; reader r 1 1 3; reader s 6 1 1; turns 3;");
        CHECK.due("in 0", x.likedIn(0), 0);
        CHECK.due("in 1", x.likedIn(1), 10);
        CHECK.due("in 2", x.likedIn(2), 19);
        CHECK.due("in 3, turned", x.likedIn(3), 9 + 8);
        CHECK.due("in 61", x.likedIn(61), -1);
        CHECK.due("in -1", x.likedIn(-1), -1);
        HopeDrawer y = Check.drawerWith("letter a 0 1 1 0; reader r 1 1 3; wet 100;");
        CHECK.due("with wet", y.likedIn(5), 0);
    }

    private static void year() {
        HopeDrawer x = Check.drawerWith("letter a 0 1 1 0; reader r 1 1 3; wet 50; seed 9990;");
        for (int n = 0; n < 4; n++) {
            int times = 0;
            for (int seed = 9990; seed < 10010; seed++) {
                boolean came = false;
                for (int day = 0; day < n; day++) {
                    came = came || Model.lot(100, seed, 4L * day) >= 50;
                }
                times += came ? 1 : 0;
            }
            CHECK.due("year in " + n, x.year(0, n, 20), times);
        }
        CHECK.due("of one seed", x.year(0, 1, 1), Model.lot(100, 9990, 0) >= 50 ? 1 : 0);
        CHECK.due("s 0", x.year(0, 1, 0), -1);
        CHECK.due("s 21", x.year(0, 1, 21), -1);
        CHECK.due("n 61", x.year(0, 61, 1), -1);
        CHECK.due("n -1", x.year(0, -1, 1), -1);
        CHECK.due("letter 1", x.year(1, 1, 1), -1);
        CHECK.due("letter -1", x.year(-1, 1, 1), -1);
        HopeDrawer y = Check.drawerWith("letter a 0 1 1 0; reader r 1 1 3; wet 100;");
        CHECK.due("always wet", y.year(0, 60, 20), 0);
        HopeDrawer z = Check.drawerWith("letter a 0 1 1 0; reader r 1 1 3;");
        CHECK.due("never wet", z.year(0, 1, 20), 20);
        CHECK.due("not yet", z.year(0, 0, 20), 0);
    }

    private static void search() {
        // 10 by 4, 7 by 3, 5 by 2, 0 by 1: 2.5, 2.33, 2.5, 0.
        HopeDrawer x = Check.drawerWith("letter a 0 5 1 0; reader r 5 0 3; reader s 8 0 2; reader t 0 0 1; reader u 5 9 0;"
            + "likes = if 8 < taste then 0 else 10 - apart;");
        int[] want = {0, 2, 1, 3};
        for (int i = 0; i < 4; i++) {
            CHECK.due("search " + i, x.search(0, i), want[i]);
        }
        CHECK.due("i 4", x.search(0, 4), -1);
        CHECK.due("i -1", x.search(0, -1), -1);
        CHECK.due("letter 1", x.search(1, 0), -1);
        CHECK.due("letter -1", x.search(-1, 0), -1);
    }

    /** As many letters and readers as can be, each want its own, so that each call goes to its end. */
    private static void fullOffice() {
        StringBuilder text = new StringBuilder("answers = 1; likes = 20 - apart; rathers = 9 - apart;");
        for (int i = 0; i < 7; i++) {
            text.append("letter l").append((char) ('a' + i)).append(" ").append(i + 1).append(" ").append(i).append(" 1 ")
                .append(6 - i).append(";");
        }
        for (int i = 0; i < 6; i++) {
            text.append("reader r").append((char) ('a' + i)).append(" ").append(i).append(" 1 1;");
        }
        HopeDrawer x = Check.drawerWith(text.toString());
        CHECK.due("chain", x.chain(-1), 7);
        for (int i = 0; i < 7; i++) {
            CHECK.due("chain " + i, x.chain(i), 6 - i);
            CHECK.due("bundle " + i, x.bundle(i), 127);
        }
        x.days(7);
        // The last one came first, and r5 likes it most; the others follow, and none is left for the first.
        for (int i = 1; i < 7; i++) {
            CHECK.due("reader of " + i, x.letter(i, 5), i - 1);
        }
        CHECK.due("shelf", x.count(4), 1);
        CHECK.due("liked", x.count(7), 6 * 19);
        // Each but the last would rather the reader of its own want, who has the next one.
        CHECK.due("uneasy", x.uneasy(0), 5);
        CHECK.due("the first of them", x.uneasy(1), 11);
        CHECK.due("barren", x.barren(), 0);
        for (int i = 1; i < 7; i++) {
            x.takeBack(i);
        }
        CHECK.due("dealt", x.dealt(-1), 6 * 20);
        for (int i = 0; i < 7; i++) {
            CHECK.due("dealt " + i, x.dealt(i), i < 6 ? i : -2);
            CHECK.due("stable " + i, x.stable(i), i < 6 ? i : -2);
        }
        for (int i = 0; i < 6; i++) {
            CHECK.due("favourite " + i, x.favourite(i, 0), i);
            CHECK.due("search " + i, x.search(0, i), i);
        }
        CHECK.due("crowd", x.crowd(6, 15), 62);
        CHECK.due("none with readers", x.count(15), 63);
        CHECK.due("which", x.which(0, 1), 127);
        CHECK.due("next", x.next(0), 4);
        for (int i = 0; i < 6; i++) {
            x.send(i, 5 - i);
        }
        // 0 and 5 gain 5 each, 1 and 4 gain 3 each, 2 and 3 one each.
        CHECK.due("best change", x.changeBest(0), 5);
        CHECK.due("by how much", x.changeBest(1), 10);
        CHECK.due("in a day", x.likedIn(1), x.count(7));
        CHECK.due("waiting", x.waiting(60), 1);
        CHECK.due("never", x.first(), -2);
    }

    private static void nothingHappens() {
        HopeDrawer x = Check.drawerWith("letter a 0 5 1 0; letter b 1 4 1 3; reader r 5 0 3; reader s 8 0 2; turns 1; returns = 1;");
        x.days(1);
        x.dealt(-1);
        x.stable(0);
        x.waiting(60);
        x.first();
        x.then(0, 60, 0);
        x.readerIn(0, 60, 0);
        x.likedIn(60);
        x.year(0, 60, 20);
        x.search(0, 0);
        x.changeBest(0);
        x.uneasy(0);
        CHECK.due("day", x.count(2), 1);
        CHECK.due("want", x.reader(0, 0), 6);
        CHECK.due("a with r", x.letter(0, 5), 0);
        CHECK.due("sent back", x.count(13), 0);
        CHECK.due("had", x.count(14), 1);
        CHECK.due("things done", x.count(9), 1);
        CHECK.due("to come", x.count(3), 2);
    }
}
