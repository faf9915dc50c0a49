import java.util.function.BooleanSupplier;
import java.util.function.IntUnaryOperator;

/** The sentences of 'Terms', II, and of promises 6 to 14 and 37 to 39 that name a boundary case, a test each. */
public final class DaysEdgesTest {
    private static final Sentences S = new Sentences("DaysEdgesTest");
    private static final int[] NO_SUCH = {-1, -2, -3, 7, 8, 31, 32, 33, 64, 100, Integer.MIN_VALUE, Integer.MAX_VALUE};
    /** Of three letters two come on day 0 and one on day 2, liked by ann, bob and cid most. */
    private static final String THREE = "letter goat 3 2 5 0; letter list 4 7 1 0; letter vow 3 4 6 2;"
        + "reader ann 2 1 3; reader bob 6 2 9; reader cid 4 3 1;";
    private static final String FULL = "letter a 1 0 1 0; letter b 1 1 1 0; letter c 1 2 1 0; letter d 1 3 1 0;"
        + "letter e 1 4 1 0; letter f 1 5 1 0; letter g 1 6 1 0;"
        + "reader p 0 1 1; reader q 1 1 1; reader r 2 1 1; reader s 3 1 1; reader t 4 1 1; reader u 5 1 1;";

    public static void main(String[] args) {
        laws();
        day();
        byHand();
        whatIs();
        whatIsDone();
        undoneAndHeld();
        counted();
        S.end(6, 14, 37, 39);
    }

    private static void noSuch(String call, IntUnaryOperator answer, int due) {
        for (int none : NO_SUCH) {
            S.due(call + " " + none, answer.applyAsInt(none), due);
        }
    }

    // ---- laws ----

    private static void laws() {
        S.holds("Terms", "the E of the first if that holds (one less than the other), else the last one",
            DaysEdgesTest::firstIf);
        S.holds("Terms", "ints of 32 bits that wrap", DaysEdgesTest::wrap);
        S.holds("Terms", "/ rounded towards 0", DaysEdgesTest::rounded);
        S.holds("Terms", "a LAW in which something that is looked at is divided by 0 is 0", DaysEdgesTest::dividedByNone);
        S.holds("Terms", "apart: how much their WANTS differ", DaysEdgesTest::apart);
        S.holds("Terms", "hand, grief: the LETTER's; taste, patience: the READER's", DaysEdgesTest::marksInLaws);
        S.holds("Terms", "age: how many days ago it came (ahead of it: 0)", DaysEdgesTest::age);
        S.holds("Terms", "day; which: the READER's number", DaysEdgesTest::dayAndWhich);
        S.holds("Terms", "had: how many LETTERS that one had so far", DaysEdgesTest::had);
        S.holds("Terms", "LIKES, RATHERS, held to 0 .. 99", DaysEdgesTest::heldTo);
        S.holds("Terms", "RETURNS: more than 0: it is sent back.", DaysEdgesTest::returnsMoreThanNone);
        S.holds("Terms", "ANSWERS of a LETTER and an earlier one", DaysEdgesTest::answersEarlier);
        S.holds("Terms", "(apart: how much their WANTS differ; hand, grief: the later one's; taste: the earlier one's HAND;"
            + " patience: the earlier one's GRIEF; age: how many days later it came; day; which: the later one's number; had: 0)",
            DaysEdgesTest::answersVars);
        S.holds("Terms", "more than 0: it ANSWERS it.", DaysEdgesTest::answersMoreThanNone);
        S.holds("Terms", "then h and h moved 15 bits down (zeros come in), likewise", DaysEdgesTest::lotOfFarDays);
        S.holds("Terms", "the rest of h, moved 1 bit down likewise, by n (32 bits that wrap).", DaysEdgesTest::lot);
    }

    /** Letter a: hand 3, want 9, grief 5, came on day 2; reader 1: want 2, taste 4, patience 8; day 7. */
    private static void likes(String law, int want) {
        HopeDrawer x = Check.drawerWith("letter a 3 9 5 2; reader q 1 1 1; reader r 2 4 8; likes = " + law + ";");
        x.days(7);
        S.due("likes = " + law, x.tells(0, 1, 0), want);
    }

    private static void firstIf() {
        likes("if 1 < 2 then 3 else 4", 3);
        likes("if 2 < 2 then 3 else 4", 4);
        likes("if 3 < 2 then 3 else 4", 4);
        likes("if 1 < 2 then 3 else if 1 < 2 then 5 else 6", 3);
        likes("if 2 < 1 then 3 else if 1 < 2 then 5 else 6", 5);
        likes("if 2 < 1 then 3 else if 2 < 1 then 5 else 6", 6);
        likes("if 2 < 1 then 3 else if 2 < 1 then 5 else if 2 < 1 then 6 else if 1 < 2 then 7 else 8", 7);
        likes("if 2 < 1 then 3 else if 2 < 1 then 5 else if 2 < 1 then 6 else if 2 < 1 then 7 else 8", 8);
        likes("if 0 - 1 < 0 then 3 else 4", 3);
        likes("if 0 < 0 - 1 then 3 else 4", 4);
    }

    private static void wrap() {
        // 46341 * 46341 is 2147488281, below 0 in 32 bits; 46340 * 46340 is 2147395600.
        likes("if 9268 * 5 * 9268 * 5 < 0 then 1 else 2", 2);
        likes("if (9268 * 5 + 1) * (9268 * 5 + 1) < 0 then 1 else 2", 1);
        // 65536 * 65536 is 0, and 65536 * 65536 / 65536 with it.
        likes("256 * 256 * 256 * 256 + 7", 7);
        likes("256 * 256 * 256 * 256 / 256 + 7", 7);
        // 2147483647 and one more is the least of all.
        likes("if 8192 * 8192 * 32 - 1 < 0 then 1 else 2", 2);
        likes("if 8192 * 8192 * 32 < 0 then 1 else 2", 1);
        likes("if 8192 * 8192 * 32 - 1 + 1 < 0 then 1 else 2", 1);
        likes("if 0 < 8192 * 8192 * 32 - 1 then 1 else 2", 1);
        // The least by -1 is the least.
        likes("if 8192 * 8192 * 32 / (0 - 1) < 0 then 7 else 8", 7);
        // No difference is looked at, but the numbers: the least is less than 1.
        likes("if 8192 * 8192 * 32 < 1 then 7 else 8", 7);
        likes("if 1 < 8192 * 8192 * 32 then 7 else 8", 8);
    }

    private static void rounded() {
        likes("7 / 2", 3);
        likes("9 / 10", 0);
        likes("9 / 1", 9);
        likes("10 + 9 / (0 - 1)", 1);
        likes("10 + (0 - 7) / 2", 7);
        likes("10 + 7 / (0 - 2)", 7);
        likes("10 + (0 - 7) / (0 - 2)", 13);
        likes("10 + (0 - 1) / 2", 10);
        likes("10 - 0 / 5", 10);
    }

    private static void dividedByNone() {
        likes("9 / 0", 0);
        likes("0 / 0 + 5", 0);
        likes("5 + 0 * (9 / 0)", 0);
        likes("50 - 9 / (hand - 3)", 0);
        likes("50 - 9 / (hand - 4)", 59);
        likes("if 9 / 0 < 1 then 3 else 4", 0);
        likes("if 1 < 9 / 0 then 3 else 4", 0);
        likes("if 1 < 2 then 9 / 0 else 4", 0);
        likes("if 2 < 1 then 3 else 9 / 0", 0);
        likes("if 2 < 1 then 3 else if 1 / 0 < 1 then 4 else 5", 0);
        // What is not looked at does not count.
        likes("if 1 < 2 then 3 else 9 / 0", 3);
        likes("if 2 < 1 then 9 / 0 else 4", 4);
        likes("if 1 < 2 then 3 else if 9 / 0 < 1 then 4 else 5", 3);
        likes("if 1 < 2 then 3 else if 1 < 9 / 0 then 4 / 0 else 5 / 0", 3);
        HopeDrawer x = Check.drawerWith("letter a 1 1 1 0; letter b 1 1 1 1; reader r 1 1 1;"
            + "rathers = 5 + 1 / 0; returns = 5 + 1 / 0; answers = 5 + 1 / 0;");
        S.due("rathers", x.tells(0, 0, 1), 0);
        S.due("returns", x.tells(0, 0, 2), 0);
        S.due("answers", x.answers(1, 0), 0);
    }

    private static void apart() {
        HopeDrawer x = Check.drawerWith("letter a 1 0 1 0; letter b 1 9 1 0; reader r 0 1 1; reader s 9 1 1;"
            + "likes = apart; turns 1;");
        S.due("0 and 0", x.tells(0, 0, 0), 0);
        S.due("0 and 9", x.tells(0, 1, 0), 9);
        S.due("9 and 0", x.tells(1, 0, 0), 9);
        S.due("9 and 9", x.tells(1, 1, 0), 0);
        x.days(1);
        S.due("9 and 0, turned", x.tells(1, 1, 0), 9);
        S.due("0 and 1, turned", x.tells(0, 0, 0), 1);
    }

    private static void marksInLaws() {
        likes("hand", 3);
        likes("grief", 5);
        likes("taste", 4);
        likes("patience", 8);
        likes("hand * 10 + grief", 35);
        likes("taste * 10 + patience", 48);
    }

    private static void age() {
        HopeDrawer x = Check.drawerWith("letter a 1 1 1 3; reader r 1 1 1; likes = age; rathers = 9 + age; wet 100;");
        int[] due = {0, 0, 0, 0, 1, 2};
        for (int day = 0; day < due.length; day++) {
            S.due("age on day " + day, x.tells(0, 0, 0), due[day]);
            S.due("in rathers on day " + day, x.tells(0, 0, 1), 9 + due[day]);
            x.days(1);
        }
        S.due("it is still to come", x.letter(0, 4), 0);
    }

    private static void dayAndWhich() {
        likes("day", 7);
        likes("which", 1);
        HopeDrawer x = Check.drawerWith(FULL + "likes = which; rathers = day;");
        S.due("the first reader", x.tells(6, 0, 0), 0);
        S.due("the last reader", x.tells(6, 5, 0), 5);
        S.due("day 0", x.tells(6, 5, 1), 0);
        x.days(60);
        x.days(39);
        S.due("day 99", x.tells(0, 0, 1), 99);
    }

    private static void had() {
        HopeDrawer x = Check.drawerWith("letter a 1 1 1 0; reader r 1 1 1; reader s 1 1 1; likes = 5 + had * 3 - which;");
        S.due("none", x.tells(0, 0, 0), 5);
        x.days(1);
        S.due("one that was sent on a day", x.tells(0, 0, 0), 8);
        x.takeBack(0);
        S.due("taken back, had all the same", x.tells(0, 0, 0), 8);
        x.send(0, 0);
        S.due("two, one sent by hand", x.tells(0, 0, 0), 11);
        S.due("the other reader had none", x.tells(0, 1, 0), 4);
    }

    private static void heldTo() {
        String text = "letter a 1 1 1 0; reader r 1 1 1; likes = ? ; rathers = ? ;";
        String[] laws = {"0 - 9999", "0 - 1", "0", "1", "98", "99", "100", "9999", "8192 * 8192 * 32", "8192 * 8192 * 32 - 1"};
        int[] due = {0, 0, 0, 1, 98, 99, 99, 99, 0, 99};
        for (int i = 0; i < laws.length; i++) {
            HopeDrawer x = Check.drawerWith(text.replace("?", laws[i]));
            S.due("likes " + laws[i], x.tells(0, 0, 0), due[i]);
            S.due("rathers " + laws[i], x.tells(0, 0, 1), due[i]);
        }
        likes("(0 - 5) + 6", 1);
    }

    private static void returnsMoreThanNone() {
        String[] laws = {"0 - 1", "0", "1", "8192 * 8192 * 32", "8192 * 8192 * 32 - 1", "100"};
        int[] due = {0, 0, 1, 0, 1, 1};
        for (int i = 0; i < laws.length; i++) {
            HopeDrawer x = Check.drawerWith("letter a 1 1 1 0; reader r 1 1 1; returns = " + laws[i] + ";");
            S.due("told of " + laws[i], x.tells(0, 0, 2), due[i]);
            x.days(2);
            S.due("sent back by " + laws[i], x.count(13), due[i]);
        }
    }

    private static void answersEarlier() {
        HopeDrawer x = Check.drawerWith("letter a 1 1 1 5; letter b 1 1 1 4; letter c 1 1 1 5; letter d 1 1 1 6; answers = 1;");
        S.due("later by a day", x.answers(0, 1), 1);
        S.due("earlier by a day", x.answers(1, 0), -1);
        S.due("on the same day", x.answers(0, 2), -1);
        S.due("on the same day, the other way", x.answers(2, 0), -1);
        S.due("by two days", x.answers(3, 1), 1);
        S.due("itself", x.answers(0, 0), -1);
    }

    private static void answersVars() {
        String pair = "letter z 1 1 1 0; letter a 2 9 4 3; letter b 3 1 5 7; reader r 1 8 8;";
        String[] vars = {"apart", "hand", "grief", "taste", "patience", "age", "day", "which", "had"};
        int[] due = {8, 3, 5, 2, 4, 4, 9, 2, 0};
        for (int i = 0; i < vars.length; i++) {
            for (int off = -1; off <= 1; off++) {
                int guess = due[i] + off + 1;
                HopeDrawer x = Check.drawerWith(pair + "answers = 1 - (" + vars[i] + " + 1 - " + guess + ") * (" + vars[i]
                    + " + 1 - " + guess + ");");
                x.days(9);
                S.due(vars[i] + " is " + (guess - 1), x.answers(2, 1), off == 0 ? 1 : 0);
            }
        }
        HopeDrawer y = Check.drawerWith("letter a 1 1 1 0; letter b 1 1 1 1; reader r 1 1 1; answers = 1 - had;");
        y.days(2);
        S.due("had is 0 though one had one", y.answers(1, 0), 1);
        HopeDrawer w = Check.drawerWith("letter a 1 1 1 0; letter b 1 1 1 99; answers = age - 98;");
        S.due("99 days later", w.answers(1, 0), 1);
    }

    private static void answersMoreThanNone() {
        String[] laws = {"0 - 1", "0", "1", "8192 * 8192 * 32", "9999"};
        int[] due = {0, 0, 1, 0, 1};
        for (int i = 0; i < laws.length; i++) {
            HopeDrawer x = Check.drawerWith("letter a 1 1 1 0; letter b 1 1 1 1; answers = " + laws[i] + ";");
            S.due("answers = " + laws[i], x.answers(1, 0), due[i]);
            S.due("chain by " + laws[i], x.chain(-1), 1 + due[i]);
        }
    }

    /** Worked out by hand, with numbers that do not end at 32 bits. */
    private static void lot() {
        int[] seeds = {0, 1, 7, 9999};
        int[][] lots = {{63, 26, 45, 12, 20, 35, 50, 53}, {79, 99, 57, 24, 84, 48, 98, 45},
            {15, 87, 72, 69, 12, 0, 37, 62}, {32, 51, 70, 14, 39, 2, 13, 65}};
        for (int i = 0; i < seeds.length; i++) {
            for (int day = 0; day < 8; day++) {
                for (int more = 0; more <= 1; more++) {
                    int wet = lots[i][day] + more;
                    HopeDrawer x = Check.drawerWith("wet " + wet + "; seed " + seeds[i] + ";");
                    x.days(day);
                    S.due("seed " + seeds[i] + " day " + day + " wet " + wet, x.count(12), more);
                }
            }
        }
    }

    private static void lotOfFarDays() {
        int[] seeds = {0, 1, 7, 9999};
        int[] lots = {65, 7, 83, 46};
        for (int i = 0; i < seeds.length; i++) {
            HopeDrawer wet = Check.drawerWith("wet " + (lots[i] + 1) + "; seed " + seeds[i] + ";");
            HopeDrawer dry = Check.drawerWith("wet " + lots[i] + "; seed " + seeds[i] + ";");
            for (int day = 0; day < 3000; day += 60) {
                wet.days(60);
                dry.days(60);
            }
            S.due("day", wet.count(2), 3000);
            S.due("seed " + seeds[i] + ", one more than its lot", wet.count(12), 1);
            S.due("seed " + seeds[i] + ", its lot", dry.count(12), 0);
        }
    }

    // ---- a day ----

    private static void day() {
        S.holds("Terms", "DAYS are counted on.", DaysEdgesTest::countedOn);
        S.holds("Terms", "A LETTER is TO COME (ahead of the day on which it comes), on the SHELF, with a READER, or BURNT.",
            DaysEdgesTest::whereLettersAre);
        S.holds("Terms", "if the sacks are not WET (LOT 100 of the SEED and 4 * the day is less than that)",
            DaysEdgesTest::wetByLot);
        S.holds("Terms", "LETTERS that come on it or came ahead and are still TO COME are on the SHELF",
            DaysEdgesTest::cameAhead);
        S.holds("Terms", "each LETTER with a READER, by its number, is sent back if RETURNS tells so",
            DaysEdgesTest::sentBack);
        S.holds("Terms", "all as it was as the day began: on the SHELF, SENT BACK once more", DaysEdgesTest::asTheDayBegan);
        S.holds("Terms", "the second time it is BURNT", DaysEdgesTest::secondTime);
        S.holds("Terms", "then each LETTER on the SHELF (sent back today, too), by its number", DaysEdgesTest::sentByNumber);
        S.holds("Terms", "is sent to that READER who has none then and LIKES it most (1 or more)", DaysEdgesTest::likedByOne);
        S.holds("Terms", "of alike ones the first, if there is one", DaysEdgesTest::firstOfAlike);
        S.holds("Terms", "all as it is then: that one had one more.", DaysEdgesTest::hadOneMore);
        S.holds("Terms", "if n is more than 0 and the day and 1 is a multiple of it, each WANT turns.",
            DaysEdgesTest::wantsTurn);
        S.holds("Terms", "It is the next day.", DaysEdgesTest::nextDay);
    }

    private static void countedOn() {
        HopeDrawer x = Check.drawerWith("letter a 1 1 1 99; reader r 1 1 1; rathers = day;");
        S.due("from 0 on", x.count(2), 0);
        for (int i = 1; i <= 5; i++) {
            S.due("counted on", x.days(60), 60 * i);
        }
        S.due("above what a letter's day can be", x.count(2), 300);
        S.due("its age", x.letter(0, 7), 201);
        x.likedIn(60);
        S.due("looking ahead counts none", x.count(2), 300);
        x.undo();
        S.due("undone", x.count(2), 240);
        S.due("and on from there", x.days(1), 241);
    }

    private static void whereLettersAre() {
        HopeDrawer x = Check.drawerWith("letter a 1 1 1 1; reader r 1 1 1; likes = if day < 2 then 0 else 1; returns = day - 2;");
        int[] where = {0, 0, 1, 2, 2, 3, 3};
        for (int day = 0; day < where.length; day++) {
            S.due("on day " + day, x.letter(0, 4), where[day]);
            x.days(1);
        }
    }

    private static void wetByLot() {
        // SEED 0: 63, 26, 45, 12, 20, 35. With WET 26 days 3 and 4 are wet, day 1 is not.
        HopeDrawer x = Check.drawerWith("letter a 1 1 1 0; letter b 1 1 1 1; letter c 1 1 1 3; letter d 1 1 1 4; letter e 1 1 1 5;"
            + "likes = 0; wet 26;");
        int[] shelf = {0, 1, 3, 3, 3, 3, 31};
        for (int day = 0; day < shelf.length; day++) {
            S.due("shelf on day " + day, x.count(4), shelf[day]);
            x.days(1);
        }
    }

    private static void cameAhead() {
        // SEED 0, WET 64: days 0 to 7 are wet; days 8 on by their lots.
        HopeDrawer x = Check.drawerWith("letter a 1 1 1 0; letter b 1 1 1 7; letter c 1 1 1 90; likes = 0; wet 64;");
        x.days(8);
        S.due("all to come", x.count(3), 7);
        boolean dry = false;
        for (int day = 8; day < 40 && !dry; day++) {
            dry = x.count(12) == 0;
            x.days(1);
            S.due("on the shelf behind day " + day, x.count(4), dry ? 3 : 0);
        }
        S.due("a dry day came", dry, true);
        // Burnt ones and those with readers do not come again.
        HopeDrawer y = Check.drawerWith("letter a 1 1 1 0; letter b 1 1 1 0; reader r 1 1 1;");
        y.days(1);
        y.burn(1);
        y.days(3);
        S.due("with a reader", y.count(5), 1);
        S.due("burnt", y.count(6), 2);
    }

    private static void sentBack() {
        HopeDrawer x = Check.drawerWith("letter a 1 1 1 0; letter b 2 1 1 0; letter c 3 1 1 0;"
            + "reader r 1 1 1; reader s 1 1 1; returns = if day < 9 then hand - 1 else 0;");
        x.days(1);
        S.due("none on the day on which they are sent", x.count(13), 0);
        S.due("c waits", x.count(4), 4);
        x.days(1);
        S.due("b alone, not c on the shelf", x.letter(1, 6), 1);
        S.due("c not", x.letter(2, 6), 0);
        S.due("a not", x.letter(0, 6), 0);
        // By hand: one that is sent by hand is sent back the same day.
        HopeDrawer y = Check.drawerWith("letter a 1 1 1 0; reader r 1 1 1; likes = 0; returns = 1;");
        y.days(1);
        y.send(0, 0);
        y.days(1);
        S.due("sent back", y.letter(0, 6), 1);
        S.due("on the shelf", y.letter(0, 4), 1);
        S.due("nobody has it", y.reader(0, 3), -2);
        // SEED 0, WET 27: day 0 is dry, day 1 is wet. Wet sacks keep letters from coming, and nothing else.
        HopeDrawer z = Check.drawerWith("letter a 1 1 1 0; letter b 1 1 1 1; reader r 1 1 1; reader s 9 1 1; wet 27; returns = 1;");
        z.days(1);
        S.due("day 1 is wet", z.count(12), 1);
        z.days(1);
        S.due("sent back on a wet day", z.letter(0, 6), 1);
        S.due("sent on on it", z.letter(0, 5), 0);
        S.due("b did not come", z.letter(1, 4), 0);
    }

    private static void asTheDayBegan() {
        // RETURNS by which, had and day: none of the day's own changes may be looked at.
        HopeDrawer x = Check.drawerWith("letter a 1 1 1 0; letter b 1 1 1 0; reader r 1 1 1; reader s 1 1 1;"
            + "returns = if had < 2 then day else 0; turns 1; likes = 50 - had - apart;");
        x.days(1);
        S.due("a to r", x.letter(0, 5), 0);
        S.due("b to s", x.letter(1, 5), 1);
        x.days(1);
        S.due("both are sent back", x.count(13), 2);
        S.due("both had two", x.count(14), 4);
        x.days(1);
        S.due("none, as both had two", x.count(13), 2);
        // WANTS as they were ahead of this day's turn.
        HopeDrawer y = Check.drawerWith("letter a 1 5 1 0; reader r 3 1 1; turns 1; returns = 1 - apart;");
        y.days(2);
        S.due("want 4 as day 1 begins", y.count(13), 0);
        y.days(1);
        S.due("want 5 as day 2 begins", y.count(13), 1);
        // Letters that come on a day are not sent back on it.
        HopeDrawer z = Check.drawerWith("letter a 1 1 1 1; reader r 1 1 1; returns = 1;");
        z.days(2);
        S.due("came and was sent", z.letter(0, 4), 2);
        S.due("not sent back", z.letter(0, 6), 0);
        z.days(1);
        S.due("once", z.letter(0, 6), 1);
        S.due("once more with a reader", z.letter(0, 4), 2);
    }

    private static void secondTime() {
        HopeDrawer x = Check.drawerWith("letter a 1 1 1 0; reader r 1 1 1; returns = 1;");
        x.days(2);
        S.due("the first time", x.letter(0, 6), 1);
        S.due("is with a reader again", x.letter(0, 4), 2);
        x.days(1);
        S.due("the second time", x.letter(0, 6), 2);
        S.due("burnt", x.letter(0, 4), 3);
        S.due("with nobody", x.letter(0, 5), -2);
        S.due("the reader has none", x.reader(0, 3), -2);
        S.due("bits of the burnt", x.count(6), 1);
        x.days(60);
        S.due("never a third time", x.letter(0, 6), 2);
        // Taken back by hand is no time.
        HopeDrawer y = Check.drawerWith("letter a 1 1 1 0; reader r 1 1 1; returns = 1;");
        y.days(2);
        y.takeBack(0);
        y.days(1);
        S.due("still the first time", y.letter(0, 6), 1);
        S.due("sent anew", y.letter(0, 4), 2);
        y.days(1);
        S.due("the second time now", y.letter(0, 4), 3);
        // A READER whose LETTER is burnt has another one on the same day.
        HopeDrawer z = Check.drawerWith("letter a 9 1 1 0; letter b 1 1 1 0; reader r 1 1 1; returns = hand - 1;");
        z.days(3);
        S.due("a burnt", z.letter(0, 4), 3);
        S.due("b with r", z.letter(1, 5), 0);
    }

    private static void sentByNumber() {
        HopeDrawer x = Check.drawerWith("letter a 1 1 1 0; letter b 1 1 1 0; letter c 1 1 1 0; reader r 1 1 1; reader s 9 1 1;");
        x.days(1);
        S.due("a first", x.letter(0, 5), 0);
        S.due("b then, to who is left", x.letter(1, 5), 1);
        S.due("c waits", x.letter(2, 4), 1);
        // On day 1 a and b are sent back; a, b and c go in this order.
        HopeDrawer y = Check.drawerWith("letter a 1 1 1 0; letter b 1 1 1 1; reader r 1 1 1; returns = 2 - day;");
        y.days(2);
        S.due("a, sent back, ahead of b", y.letter(0, 5), 0);
        S.due("b waits", y.letter(1, 4), 1);
        HopeDrawer z = Check.drawerWith("letter b 1 1 1 1; letter a 1 1 1 0; reader r 1 1 1; returns = 2 - day;");
        z.days(2);
        S.due("the one that came ahead of the one sent back", z.letter(0, 5), 0);
        S.due("the one sent back waits", z.letter(1, 4), 1);
    }

    private static void likedByOne() {
        HopeDrawer x = Check.drawerWith("letter a 0 1 1 0; letter b 1 1 1 0; reader r 1 1 1; reader s 1 1 1; likes = hand;");
        x.days(1);
        S.due("liked by 0 waits", x.letter(0, 4), 1);
        S.due("liked by 1 is sent", x.letter(1, 4), 2);
        x.days(5);
        S.due("it waits on", x.letter(0, 4), 1);
        HopeDrawer y = Check.drawerWith("letter a 1 1 1 0; letter b 1 1 1 1; reader r 5 1 1; reader s 1 1 1; reader t 2 1 1;");
        y.days(1);
        S.due("who likes it most", y.letter(0, 5), 1);
        y.days(1);
        S.due("who has none and likes it most", y.letter(1, 5), 2);
        HopeDrawer z = Check.drawerWith("letter a 1 1 1 0; reader r 1 1 1; reader s 1 1 1; likes = 98 + which;");
        z.days(1);
        S.due("99 is more than 98", z.letter(0, 5), 1);
        S.due("no reader at all", Check.drawerWith("letter a 1 1 1 0;").waiting(1), 1);
    }

    private static void firstOfAlike() {
        HopeDrawer x = Check.drawerWith("letter a 1 5 1 0; letter b 1 5 1 0; letter c 1 5 1 0;"
            + "reader r 9 1 1; reader s 4 1 1; reader t 6 1 1; likes = 2 - apart;");
        x.days(1);
        S.due("the first of two alike", x.letter(0, 5), 1);
        S.due("the other one", x.letter(1, 5), 2);
        S.due("there is none", x.letter(2, 4), 1);
        // Held to 99 they are alike.
        HopeDrawer y = Check.drawerWith("letter a 1 1 1 0; reader r 1 1 1; reader s 1 1 1; likes = 99 + which;");
        y.days(1);
        S.due("both by 99", y.letter(0, 5), 0);
    }

    private static void hadOneMore() {
        HopeDrawer x = Check.drawerWith("letter a 1 1 1 0; letter b 1 1 1 0; reader r 1 1 1; likes = 2 - had;");
        x.days(1);
        S.due("had 1", x.reader(0, 4), 1);
        x.takeBack(0);
        x.days(1);
        S.due("liked by 1, had 2", x.reader(0, 4), 2);
        x.takeBack(0);
        x.days(1);
        S.due("liked by 0, not sent", x.reader(0, 4), 2);
        S.due("both wait", x.count(4), 3);
        // Sent back, and sent on by the likings of then.
        HopeDrawer y = Check.drawerWith("letter a 1 1 1 0; reader r 1 1 1; reader s 1 1 1; likes = 9 - had * 4 - which;"
            + "returns = if day < 2 then 1 else 0;");
        y.days(1);
        S.due("a to r, who had none", y.letter(0, 5), 0);
        y.days(1);
        S.due("a to s, as r had one", y.letter(0, 5), 1);
        S.due("each had one", y.reader(0, 4) * 10 + y.reader(1, 4), 11);
    }

    private static void wantsTurn() {
        HopeDrawer x = Check.drawerWith("reader r 8 1 1; reader s 0 1 1; turns 3;");
        int[] due = {8, 8, 8, 9, 9, 9, 0, 0, 0, 1};
        for (int day = 0; day < due.length; day++) {
            S.due("want on day " + day, x.reader(0, 0), due[day]);
            S.due("each want on day " + day, x.reader(1, 0), day / 3);
            x.days(1);
        }
        // Behind the sending of the day: on day 0 the want is still as told.
        HopeDrawer y = Check.drawerWith("letter a 1 5 1 0; reader r 5 1 1; reader s 4 1 1; turns 1;");
        y.days(1);
        S.due("sent ahead of the turn", y.letter(0, 5), 0);
        HopeDrawer z = Check.drawerWith("letter a 1 5 1 1; reader r 5 1 1; reader s 4 1 1; turns 1;");
        z.days(2);
        S.due("sent behind the turn", z.letter(0, 5), 1);
        HopeDrawer w = Check.drawerWith("reader r 8 1 1; turns 0;");
        w.days(60);
        S.due("n 0", w.reader(0, 0), 8);
        HopeDrawer all = Check.drawerWith(FULL + "turns 60;");
        all.days(59);
        S.due("59 days", all.reader(5, 0), 5);
        all.days(1);
        S.due("60 days, the last reader, too", all.reader(5, 0), 6);
    }

    private static void nextDay() {
        HopeDrawer x = Check.drawerWith(THREE + "wet 100;");
        for (int day = 1; day <= 5; day++) {
            S.due("which it is", x.days(1), day);
            S.due("counted", x.count(2), day);
        }
        HopeDrawer y = new HopeDrawer();
        for (int i = 1; i <= 200; i++) {
            S.due("days of sixty", y.days(60), 60 * i);
        }
    }

    // ---- by hand ----

    private static void byHand() {
        S.holds("Terms", "By hand: a LETTER on the SHELF is SENT to a READER who has none", DaysEdgesTest::sentByHand);
        S.holds("Terms", "one is TAKEN BACK to the SHELF", DaysEdgesTest::takenByHand);
        S.holds("Terms", "one on the SHELF is BURNT", DaysEdgesTest::burntByHand);
    }

    private static void sentByHand() {
        HopeDrawer x = Check.drawerWith("letter a 1 1 1 0; reader r 1 1 1; likes = 0; returns = 0;");
        x.days(1);
        S.due("liked by 0, all the same", x.send(0, 0), true);
        S.due("with r", x.letter(0, 5), 0);
        S.due("had one", x.reader(0, 4), 1);
        S.due("had in all", x.count(14), 1);
        S.due("the day stays", x.count(2), 1);
    }

    private static void takenByHand() {
        HopeDrawer x = Check.drawerWith("letter a 1 1 1 0; reader r 1 1 1;");
        x.days(1);
        x.takeBack(0);
        S.due("on the shelf", x.letter(0, 4), 1);
        S.due("with nobody", x.letter(0, 5), -2);
        S.due("r has none", x.reader(0, 3), -2);
        S.due("not sent back", x.letter(0, 6), 0);
        S.due("none sent back", x.count(13), 0);
        S.due("r had one", x.reader(0, 4), 1);
    }

    private static void burntByHand() {
        HopeDrawer x = Check.drawerWith("letter a 1 1 1 0; reader r 1 1 1; likes = 0;");
        x.days(1);
        x.burn(0);
        S.due("burnt", x.letter(0, 4), 3);
        S.due("not sent back", x.letter(0, 6), 0);
        x.days(60);
        S.due("for good", x.letter(0, 4), 3);
    }

    // ---- promises 6 to 9 ----

    private static void whatIs() {
        S.holds("Promise 6", "4: 0 TO COME, 1 on the SHELF, 2 with a READER, 3 BURNT", DaysEdgesTest::letterWhere);
        S.holds("Promise 6", "5 which READER (-2: none)", DaysEdgesTest::letterWithNobody);
        S.holds("Promise 6", "6 how often SENT BACK", DaysEdgesTest::letterSentBack);
        S.holds("Promise 6", "7 age now.", DaysEdgesTest::letterAge);
        S.holds("Promise 6", "NONE for others.", DaysEdgesTest::letterOthers);
        S.holds("Promise 7", "what 0 WANT now", DaysEdgesTest::readerWantNow);
        S.holds("Promise 7", "3 the LETTER they have (-2: none)", DaysEdgesTest::readerWithNone);
        S.holds("Promise 7", "4 how many they had so far.", DaysEdgesTest::readerHad);
        S.holds("Promise 7", "NONE for others.", DaysEdgesTest::readerOthers);
        S.holds("Promise 8", "Of a LETTER and a READER now, wherever it is", DaysEdgesTest::tellsWherever);
        S.holds("Promise 8", "2: 1 RETURNS, else 0.", DaysEdgesTest::tellsReturns);
        S.holds("Promise 8", "NONE for others.", DaysEdgesTest::tellsOthers);
        S.holds("Promise 9", "NONE: no such ones, not earlier.", DaysEdgesTest::answersNone);
    }

    private static void letterWhere() {
        HopeDrawer x = fourPlaces();
        int[] where = {2, 1, 0, 3};
        for (int letter = 0; letter < 4; letter++) {
            S.due("letter " + letter, x.letter(letter, 4), where[letter]);
        }
        // On the day on which it comes it is to come until the day has gone by.
        x.days(1);
        S.due("day 2", x.count(2), 2);
        S.due("vow on its day", x.letter(2, 4), 0);
        x.days(1);
        S.due("vow behind its day", x.letter(2, 4), 2);
    }

    private static void letterSentBack() {
        HopeDrawer x = Check.drawerWith("letter a 1 1 1 0; letter b 0 1 1 0; reader r 1 1 1; reader s 1 1 1; returns = hand;");
        int[] due = {0, 0, 1, 2, 2};
        for (int day = 0; day < due.length; day++) {
            S.due("a on day " + day, x.letter(0, 6), due[day]);
            S.due("b on day " + day, x.letter(1, 6), 0);
            x.days(1);
        }
        x.takeBack(1);
        S.due("taken back by hand", x.letter(1, 6), 0);
        x.burn(1);
        S.due("burnt by hand", x.letter(1, 6), 0);
    }

    private static void letterWithNobody() {
        HopeDrawer x = Check.drawerWith(THREE);
        S.due("to come", x.letter(0, 5), -2);
        x.days(1);
        S.due("with the first reader", x.letter(0, 5), 0);
        x.takeBack(0);
        S.due("on the shelf", x.letter(0, 5), -2);
        x.send(0, 2);
        S.due("with the last reader", x.letter(0, 5), 2);
        x.takeBack(0);
        x.burn(0);
        S.due("burnt", x.letter(0, 5), -2);
    }

    private static void letterAge() {
        HopeDrawer x = Check.drawerWith("letter a 1 1 1 0; letter b 1 1 1 2; letter c 1 1 1 99; reader r 1 1 1; wet 100;");
        S.due("on day 0", x.letter(0, 7), 0);
        x.days(2);
        S.due("a on day 2", x.letter(0, 7), 2);
        S.due("b on day 2", x.letter(1, 7), 0);
        x.days(1);
        S.due("b on day 3", x.letter(1, 7), 1);
        S.due("c ahead", x.letter(2, 7), 0);
        x.undo();
        S.due("b undone", x.letter(1, 7), 0);
        HopeDrawer y = Check.drawerWith("letter a 1 1 1 0; likes = 0;");
        y.days(1);
        y.burn(0);
        y.days(9);
        S.due("burnt ones grow old, too", y.letter(0, 7), 10);
    }

    private static void letterOthers() {
        HopeDrawer x = Check.drawerWith(THREE);
        noSuch("letter", l -> x.letter(l, 0), -1);
        S.due("letter 3 of three", x.letter(3, 0), -1);
        noSuch("what", w -> x.letter(0, w == 7 ? 8 : w), -1);
        for (int what = -1; what <= 8; what++) {
            S.due("new object, what " + what, new HopeDrawer().letter(0, what), -1);
        }
        HopeDrawer full = Check.drawerWith(FULL);
        S.due("letter 6 of seven", full.letter(6, 1), 6);
        S.due("letter 7 of seven", full.letter(7, 1), -1);
    }

    private static void readerWantNow() {
        HopeDrawer x = Check.drawerWith(THREE + "turns 1;");
        S.due("as told", x.reader(1, 0), 6);
        x.days(3);
        S.due("turned to 9", x.reader(1, 0), 9);
        x.days(1);
        S.due("turned to 0", x.reader(1, 0), 0);
        x.undo();
        S.due("undone", x.reader(1, 0), 9);
        S.due("taste does not turn", x.reader(1, 1), 2);
        S.due("patience does not turn", x.reader(1, 2), 9);
    }

    private static void readerWithNone() {
        HopeDrawer x = Check.drawerWith(THREE);
        S.due("none at first", x.reader(0, 3), -2);
        x.days(1);
        S.due("the first letter", x.reader(0, 3), 0);
        S.due("cid has none", x.reader(2, 3), -2);
        x.days(2);
        S.due("the last letter", x.reader(2, 3), 2);
        x.takeBack(2);
        S.due("taken back", x.reader(2, 3), -2);
        x.undo();
        S.due("undone", x.reader(2, 3), 2);
    }

    private static void readerHad() {
        HopeDrawer x = Check.drawerWith("letter a 1 1 1 0; letter b 1 1 1 0; reader r 1 1 1; reader s 1 1 1; returns = 1;");
        int[] due = {0, 1, 2, 2, 2};
        for (int day = 0; day < due.length; day++) {
            S.due("on day " + day, x.reader(0, 4), due[day]);
            x.days(1);
        }
        HopeDrawer y = Check.drawerWith("letter a 1 1 1 0; reader r 1 1 1; likes = 0;");
        y.days(1);
        for (int time = 1; time <= 30; time++) {
            y.send(0, 0);
            S.due("sent " + time + " times by hand", y.reader(0, 4), time);
            y.takeBack(0);
        }
        y.undo();
        y.undo();
        S.due("one sending undone", y.reader(0, 4), 29);
    }

    private static void readerOthers() {
        HopeDrawer x = Check.drawerWith(THREE);
        noSuch("reader", r -> x.reader(r, 0), -1);
        S.due("reader 3 of three", x.reader(3, 0), -1);
        noSuch("what", w -> x.reader(0, w), -1);
        S.due("what 5", x.reader(0, 5), -1);
        S.due("what 6", x.reader(0, 6), -1);
        for (int what = -1; what <= 5; what++) {
            S.due("new object, what " + what, new HopeDrawer().reader(0, what), -1);
        }
        HopeDrawer full = Check.drawerWith(FULL);
        S.due("reader 5 of six", full.reader(5, 0), 5);
        S.due("reader 6 of six", full.reader(6, 0), -1);
    }

    private static void tellsWherever() {
        HopeDrawer x = Check.drawerWith(THREE + "likes = 10 - apart + day;");
        S.due("to come", x.tells(0, 1, 0), 6);
        x.days(1);
        S.due("with another", x.tells(0, 1, 0), 7);
        S.due("to come still", x.tells(2, 1, 0), 9);
        x.takeBack(0);
        S.due("on the shelf", x.tells(0, 1, 0), 7);
        x.burn(0);
        S.due("burnt", x.tells(0, 1, 0), 7);
        x.days(1);
        S.due("a day later", x.tells(0, 1, 0), 8);
        S.due("rathers of the burnt one", x.tells(0, 1, 1), 9);
    }

    private static void tellsReturns() {
        HopeDrawer x = Check.drawerWith(THREE + "returns = (grief - 5) * 50;");
        S.due("below 0", x.tells(1, 0, 2), 0);
        S.due("0", x.tells(0, 0, 2), 0);
        S.due("50", x.tells(2, 0, 2), 1);
    }

    private static void tellsOthers() {
        HopeDrawer x = Check.drawerWith(THREE);
        noSuch("letter", l -> x.tells(l, 0, 0), -1);
        noSuch("reader", r -> x.tells(0, r, 0), -1);
        noSuch("what", w -> x.tells(0, 0, w), -1);
        S.due("letter 3 of three", x.tells(3, 0, 0), -1);
        S.due("reader 3 of three", x.tells(0, 3, 0), -1);
        S.due("what 3", x.tells(0, 0, 3), -1);
        S.due("new object", new HopeDrawer().tells(0, 0, 0), -1);
        S.due("no readers", Check.drawerWith("letter a 1 1 1 1;").tells(0, 0, 0), -1);
        S.due("no letters", Check.drawerWith("reader a 1 1 1;").tells(0, 0, 0), -1);
        HopeDrawer full = Check.drawerWith(FULL);
        S.due("the last of both", full.tells(6, 5, 0), 9);
        S.due("letter 7 of seven", full.tells(7, 5, 0), -1);
        S.due("reader 6 of six", full.tells(6, 6, 0), -1);
    }

    private static void answersNone() {
        HopeDrawer x = Check.drawerWith(THREE + "answers = 1;");
        S.due("later", x.answers(2, 0), 1);
        S.due("earlier", x.answers(0, 2), -1);
        S.due("the same day", x.answers(1, 0), -1);
        S.due("itself", x.answers(2, 2), -1);
        noSuch("letter", l -> x.answers(l, 0), -1);
        noSuch("other", l -> x.answers(2, l), -1);
        S.due("letter 3 of three", x.answers(3, 0), -1);
        S.due("other 3 of three", x.answers(2, 3), -1);
        S.due("new object", new HopeDrawer().answers(1, 0), -1);
        x.days(3);
        x.takeBack(0);
        x.burn(0);
        S.due("a burnt one is answered, too", x.answers(2, 0), 1);
    }

    // ---- promises 10 to 13 ----

    private static void whatIsDone() {
        S.holds("Promise 10", "SENT: true;", DaysEdgesTest::sendDone);
        S.holds("Promise 10", "false, and nothing happens: not on the SHELF", DaysEdgesTest::sendNotOnShelf);
        S.holds("Promise 10", "the READER has one", DaysEdgesTest::sendToOneWhoHas);
        S.holds("Promise 10", "no such ones.", DaysEdgesTest::sendNoSuch);
        S.holds("Promise 11", "TAKEN BACK: true;", DaysEdgesTest::takeDone);
        S.holds("Promise 11", "false, and nothing happens: no READER has it", DaysEdgesTest::takeNotWithReader);
        S.holds("Promise 11", "no such LETTER.", DaysEdgesTest::takeNoSuch);
        S.holds("Promise 12", "BURNT: true;", DaysEdgesTest::burnDone);
        S.holds("Promise 12", "false, and nothing happens: not on the SHELF", DaysEdgesTest::burnNotOnShelf);
        S.holds("Promise 12", "no such LETTER.", DaysEdgesTest::burnNoSuch);
        S.holds("Promise 13", "n DAYS (0 .. 60; 0 is no thing done) go by: which it is", DaysEdgesTest::daysGoBy);
        S.holds("Promise 13", "NONE, and nothing happens: no such n.", DaysEdgesTest::daysNoSuch);
    }

    /** Goat with ann, list on the shelf, vow to come, late burnt. */
    private static HopeDrawer fourPlaces() {
        HopeDrawer x = Check.drawerWith(THREE + "letter late 1 9 1 0;");
        x.days(1);
        x.takeBack(1);
        x.takeBack(3);
        x.burn(3);
        return x;
    }

    private static void sendDone() {
        HopeDrawer x = fourPlaces();
        S.due("send", x.send(1, 2), true);
        S.due("where", x.letter(1, 4), 2);
        S.due("with whom", x.letter(1, 5), 2);
        S.due("what cid has", x.reader(2, 3), 1);
        S.due("shelf", x.count(4), 0);
        S.due("with readers", x.count(5), 3);
        S.due("a thing done", x.count(9), 5);
        S.due("the last of both", lastSent(), true);
    }

    private static boolean lastSent() {
        HopeDrawer x = Check.drawerWith(FULL);
        x.days(1);
        x.takeBack(5);
        return x.send(6, 5);
    }

    private static void sendNotOnShelf() {
        HopeDrawer x = fourPlaces();
        S.nothingHappens(x, () -> {
            S.due("with a reader, to another", x.send(0, 1), false);
            S.due("with a reader, to the same", x.send(0, 0), false);
            S.due("to come", x.send(2, 1), false);
            S.due("burnt", x.send(3, 1), false);
        });
    }

    private static void sendToOneWhoHas() {
        HopeDrawer x = fourPlaces();
        S.nothingHappens(x, () -> S.due("ann has goat", x.send(1, 0), false));
        x.takeBack(0);
        S.due("ann has none now", x.send(1, 0), true);
    }

    private static void sendNoSuch() {
        HopeDrawer x = fourPlaces();
        S.nothingHappens(x, () -> {
            noSuch("letter", l -> x.send(l, 2) ? 1 : 0, 0);
            noSuch("reader", r -> x.send(1, r) ? 1 : 0, 0);
            S.due("letter 4 of four", x.send(4, 2), false);
            S.due("reader 3 of three", x.send(1, 3), false);
        });
        S.due("new object", new HopeDrawer().send(0, 0), false);
        HopeDrawer y = Check.drawerWith("letter a 1 1 1 0;");
        y.days(1);
        S.due("no readers", y.send(0, 0), false);
    }

    private static void takeDone() {
        HopeDrawer x = fourPlaces();
        S.due("take", x.takeBack(0), true);
        S.due("where", x.letter(0, 4), 1);
        S.due("shelf", x.count(4), 3);
        S.due("ann has none", x.count(15), 7);
        S.due("a thing done", x.count(9), 5);
    }

    private static void takeNotWithReader() {
        HopeDrawer x = fourPlaces();
        S.nothingHappens(x, () -> {
            S.due("on the shelf", x.takeBack(1), false);
            S.due("to come", x.takeBack(2), false);
            S.due("burnt", x.takeBack(3), false);
        });
    }

    private static void takeNoSuch() {
        HopeDrawer x = fourPlaces();
        S.nothingHappens(x, () -> {
            noSuch("letter", l -> x.takeBack(l) ? 1 : 0, 0);
            S.due("letter 4 of four", x.takeBack(4), false);
        });
        S.due("new object", new HopeDrawer().takeBack(0), false);
    }

    private static void burnDone() {
        HopeDrawer x = fourPlaces();
        S.due("burn", x.burn(1), true);
        S.due("where", x.letter(1, 4), 3);
        S.due("burnt", x.count(6), 10);
        S.due("shelf", x.count(4), 0);
        S.due("a thing done", x.count(9), 5);
    }

    private static void burnNotOnShelf() {
        HopeDrawer x = fourPlaces();
        S.nothingHappens(x, () -> {
            S.due("with a reader", x.burn(0), false);
            S.due("to come", x.burn(2), false);
            S.due("burnt", x.burn(3), false);
        });
    }

    private static void burnNoSuch() {
        HopeDrawer x = fourPlaces();
        S.nothingHappens(x, () -> {
            noSuch("letter", l -> x.burn(l) ? 1 : 0, 0);
            S.due("letter 4 of four", x.burn(4), false);
        });
        S.due("new object", new HopeDrawer().burn(0), false);
    }

    private static void daysGoBy() {
        HopeDrawer x = fourPlaces();
        S.nothingHappens(x, () -> S.due("0 days", x.days(0), 1));
        S.due("0 days of a new object", new HopeDrawer().days(0), 0);
        S.due("60 days", x.days(60), 61);
        S.due("one thing done", x.count(9), 5);
        S.due("1 day", x.days(1), 62);
        S.due("0 days again", x.days(0), 62);
        S.due("the 60 are undone as one", x.undo() && x.undo(), true);
        S.due("day 1", x.count(2), 1);
    }

    private static void daysNoSuch() {
        HopeDrawer x = fourPlaces();
        S.nothingHappens(x, () -> {
            for (int n : new int[] {-1, -60, 61, 62, 100, Integer.MIN_VALUE, Integer.MAX_VALUE}) {
                S.due("days " + n, x.days(n), -1);
            }
        });
    }

    // ---- promises 14, 37 and 38 ----

    private static void undoneAndHeld() {
        S.holds("Promise 14", "The last thing done (send, takeBack, burn, days) is undone: true", DaysEdgesTest::undoEach);
        S.holds("Promise 14", "false: there is none", DaysEdgesTest::undoNone);
        S.holds("Promise 14", "(the last 40 can be).", DaysEdgesTest::undoForty);
        S.holds("Promise 37", "All that goes on (not what is TOLD, nor the tape) is held", DaysEdgesTest::holdAll);
        S.holds("Promise 37", "in a SLOT (0 .. 2): true", DaysEdgesTest::holdSlots);
        S.holds("Promise 37", "false: no such one.", DaysEdgesTest::holdNoSuch);
        S.holds("Promise 38", "It goes on from what a SLOT holds (that stays there", DaysEdgesTest::restoreStays);
        S.holds("Promise 38", "nothing can be undone then): true", DaysEdgesTest::restoreUndoesNothing);
        S.holds("Promise 38", "false, and nothing happens: no such one", DaysEdgesTest::restoreNoSuch);
        S.holds("Promise 38", "nothing is held.", DaysEdgesTest::restoreNothing);
    }

    private static HopeDrawer turning() {
        return Check.drawerWith(THREE + "turns 1; returns = if day < 3 then grief - 4 else 0; likes = 9 + had;");
    }

    private static void undone(String thing, HopeDrawer x, BooleanSupplier done) {
        S.nothingHappens(x, () -> {
            S.due(thing, done.getAsBoolean(), true);
            S.due("undo of " + thing, x.undo(), true);
        });
    }

    private static void undoEach() {
        HopeDrawer x = turning();
        undone("days 3", x, () -> x.days(3) == 3);
        x.days(2);
        undone("takeBack", x, () -> x.takeBack(0));
        HopeDrawer y = turning();
        y.days(2);
        y.takeBack(0);
        undone("send", y, () -> y.send(0, 2));
        undone("send to who had it", y, () -> y.send(0, 0));
        HopeDrawer z = turning();
        z.days(2);
        z.takeBack(1);
        undone("burn", z, () -> z.burn(1));
        undone("days 60", z, () -> z.days(60) == 62);
        // Only the last one, and each but once.
        z.burn(1);
        z.days(1);
        S.due("undo the day", z.undo(), true);
        S.due("still burnt", z.letter(1, 4), 3);
        S.due("undo the burning", z.undo(), true);
        S.due("on the shelf", z.letter(1, 4), 1);
        S.due("undo the taking", z.undo(), true);
        S.due("with a reader", z.letter(1, 4), 2);
        S.due("undo the days", z.undo(), true);
        S.due("day 0", z.count(2), 0);
        S.due("none is left", z.undo(), false);
    }

    private static void undoNone() {
        HopeDrawer x = new HopeDrawer();
        S.nothingHappens(x, () -> S.due("new object", x.undo(), false));
        HopeDrawer y = turning();
        S.nothingHappens(y, () -> {
            // None of these is a thing done.
            y.days(0);
            y.days(61);
            y.send(0, 0);
            y.takeBack(0);
            y.burn(0);
            y.tell(0, 1, true);
            y.forget();
            S.due("nothing was done", y.undo(), false);
        });
        y.hold(0);
        S.due("holding is no thing done", y.undo(), false);
        y.days(1);
        S.due("one thing", y.undo(), true);
        S.due("no second", y.undo(), false);
    }

    private static void undoForty() {
        HopeDrawer x = new HopeDrawer();
        for (int i = 1; i <= 40; i++) {
            x.days(1);
        }
        S.due("forty", x.count(9), 40);
        for (int i = 39; i >= 0; i--) {
            S.due("undo to day " + i, x.undo(), true);
            S.due("day", x.count(2), i);
        }
        S.due("forty all told", x.undo(), false);
        for (int i = 1; i <= 41; i++) {
            x.days(1);
        }
        S.due("forty of forty-one", x.count(9), 40);
        for (int i = 40; i >= 1; i--) {
            S.due("undo again to day " + i, x.undo(), true);
        }
        S.due("the first is not undone", x.undo(), false);
        S.due("day 1", x.count(2), 1);
        // A hundred more, of which the last forty can be.
        for (int i = 0; i < 100; i++) {
            x.days(1 + i % 2);
        }
        S.due("day 151", x.count(2), 151);
        for (int i = 0; i < 40; i++) {
            x.undo();
        }
        S.due("sixty things are left", x.count(2), 91);
        S.due("no more", x.undo(), false);
    }

    private static void holdAll() {
        HopeDrawer x = turning();
        x.days(2);
        x.takeBack(1);
        x.burn(1);
        x.tell(0, 1, true);
        Check.feed(x, "abc");
        x.hold(1);
        int[] letters = new int[24];
        for (int i = 0; i < 24; i++) {
            letters[i] = x.letter(i / 8, i % 8);
        }
        int[] readers = new int[15];
        for (int i = 0; i < 15; i++) {
            readers[i] = x.reader(i / 5, i % 5);
        }
        S.due("sent back once", x.letter(0, 6), 1);
        x.tell(0, 9, true);
        Check.feed(x, "de");
        x.days(5);
        x.takeBack(0);
        x.burn(0);
        x.restore(1);
        for (int i = 0; i < 24; i++) {
            S.due("letter " + i / 8 + " " + i % 8, x.letter(i / 8, i % 8), letters[i]);
        }
        for (int i = 0; i < 15; i++) {
            S.due("reader " + i / 5 + " " + i % 5, x.reader(i / 5, i % 5), readers[i]);
        }
        S.due("day", x.count(2), 2);
        S.due("told stay as they are", x.count(10), 2);
        S.due("both are known", x.which(2, 0), 0);
        S.due("the tape stays as it is", x.count(8), 5);
        x.forget();
        x.back(5);
        x.restore(1);
        S.due("told do not come back", x.count(10), 0);
        S.due("the tape does not come back", x.count(8), 0);
    }

    private static void holdSlots() {
        HopeDrawer x = turning();
        for (int slot = 0; slot < 3; slot++) {
            x.days(1);
            S.due("hold " + slot, x.hold(slot), true);
            S.due("slots", x.count(11), slot + 1);
        }
        for (int slot = 0; slot < 3; slot++) {
            S.due("restore " + slot, x.restore(slot), true);
            S.due("its day", x.count(2), slot + 1);
        }
        x.days(10);
        S.due("hold 1 anew", x.hold(1), true);
        S.due("still three", x.count(11), 3);
        x.restore(0);
        x.restore(1);
        S.due("what is held last", x.count(2), 13);
        S.due("a new object", new HopeDrawer().hold(2), true);
    }

    private static void holdNoSuch() {
        HopeDrawer x = turning();
        x.days(1);
        S.nothingHappens(x, () -> {
            noSuch("hold", slot -> x.hold(slot) ? 1 : 0, 0);
            S.due("hold 3", x.hold(3), false);
        });
    }

    private static void restoreStays() {
        HopeDrawer x = turning();
        x.days(2);
        x.hold(0);
        for (int time = 0; time < 3; time++) {
            x.days(3);
            x.takeBack(0);
            S.due("restore", x.restore(0), true);
            S.due("day", x.count(2), 2);
            S.due("with a reader", x.letter(0, 4), 2);
            S.due("one slot", x.count(11), 1);
            // It goes on from there.
            S.due("days go by", x.days(1), 3);
        }
    }

    private static void restoreUndoesNothing() {
        HopeDrawer x = turning();
        x.days(2);
        x.hold(0);
        x.days(3);
        S.due("two things", x.count(9), 2);
        S.due("restore", x.restore(0), true);
        S.due("none can be", x.count(9), 0);
        S.due("undo", x.undo(), false);
        S.due("day", x.count(2), 2);
        x.days(1);
        S.due("one can be", x.count(9), 1);
        S.due("undo of what was done since", x.undo(), true);
        S.due("day again", x.count(2), 2);
        S.due("no more", x.undo(), false);
    }

    private static void restoreNoSuch() {
        HopeDrawer x = turning();
        x.hold(0);
        x.hold(1);
        x.hold(2);
        x.days(1);
        S.nothingHappens(x, () -> {
            noSuch("restore", slot -> x.restore(slot) ? 1 : 0, 0);
            S.due("restore 3", x.restore(3), false);
        });
    }

    private static void restoreNothing() {
        HopeDrawer x = turning();
        x.days(1);
        S.nothingHappens(x, () -> {
            for (int slot = 0; slot < 3; slot++) {
                S.due("restore " + slot, x.restore(slot), false);
            }
        });
        x.hold(1);
        x.days(1);
        S.due("restore 0 beside it", x.restore(0), false);
        S.due("restore 2 beside it", x.restore(2), false);
        S.due("day", x.count(2), 2);
        S.due("undo is left", x.count(9), 2);
        S.due("new object", new HopeDrawer().restore(0), false);
    }

    // ---- promise 39 ----

    private static void counted() {
        S.holds("Promise 39", "0 LETTERS, 1 READERS, 2 the day", DaysEdgesTest::countMost);
        S.holds("Promise 39", "3 LETTERS TO COME, 4 on the SHELF, 5 with READERS, 6 BURNT (bits)", DaysEdgesTest::countBits);
        S.holds("Promise 39", "7 LIKES of all that READERS have, added", DaysEdgesTest::countLikes);
        S.holds("Promise 39", "8 bytes on the tape", DaysEdgesTest::countTape);
        S.holds("Promise 39", "9 things that can be undone, 10 TOLD ones, 11 SLOTS that hold something",
            DaysEdgesTest::countKept);
        S.holds("Promise 39", "12: 1 WET this day, else 0", DaysEdgesTest::countWet);
        S.holds("Promise 39", "13 how often any was SENT BACK so far", DaysEdgesTest::countSentBack);
        S.holds("Promise 39", "14 how many LETTERS READERS had so far, together", DaysEdgesTest::countHad);
        S.holds("Promise 39", "15 READERS who have none (bits).", DaysEdgesTest::countNone);
        S.holds("Promise 39", "NONE for others.", DaysEdgesTest::countOthers);
    }

    private static void countMost() {
        HopeDrawer x = Check.drawerWith(FULL);
        S.due("seven letters", x.count(0), 7);
        S.due("six readers", x.count(1), 6);
        S.due("day 0", x.count(2), 0);
        x.days(60);
        S.due("day 60", x.count(2), 60);
        S.due("burnt or not, they are counted", burntAll().count(0), 1);
    }

    private static HopeDrawer burntAll() {
        HopeDrawer x = Check.drawerWith("letter a 1 1 1 0;");
        x.days(1);
        x.burn(0);
        return x;
    }

    private static void countBits() {
        HopeDrawer x = Check.drawerWith(FULL);
        S.due("all to come", x.count(3), 127);
        x.days(1);
        S.due("none to come", x.count(3), 0);
        S.due("the seventh on the shelf", x.count(4), 64);
        S.due("six with readers", x.count(5), 63);
        x.burn(6);
        S.due("none on the shelf", x.count(4), 0);
        S.due("the seventh burnt", x.count(6), 64);
        x.takeBack(0);
        x.burn(0);
        S.due("the first burnt, too", x.count(6), 65);
        S.due("five with readers", x.count(5), 62);
    }

    private static void countLikes() {
        HopeDrawer x = Check.drawerWith(FULL + "likes = 99;");
        S.due("none has any", x.count(7), 0);
        x.days(1);
        S.due("six by 99", x.count(7), 594);
        x.takeBack(0);
        S.due("five", x.count(7), 495);
        HopeDrawer y = Check.drawerWith("letter a 1 1 1 0; reader r 1 1 1; likes = 5 - day;");
        y.days(1);
        S.due("now", y.count(7), 4);
        y.days(9);
        S.due("held to 0", y.count(7), 0);
    }

    private static void countTape() {
        HopeDrawer x = new HopeDrawer();
        S.due("empty", x.count(8), 0);
        Check.feed(x, " ".repeat(2000));
        S.due("full", x.count(8), 2000);
        x.back(1999);
        S.due("one", x.count(8), 1);
        x.read();
        S.due("read", x.count(8), 0);
    }

    private static void countKept() {
        HopeDrawer x = Check.drawerWith(THREE);
        for (int i = 1; i <= 45; i++) {
            x.days(1);
            S.due("undone " + i, x.count(9), Math.min(i, 40));
        }
        x.undo();
        S.due("one less", x.count(9), 39);
        for (int i = 1; i <= 22; i++) {
            x.tell(0, 1, true);
            S.due("told " + i, x.count(10), Math.min(i, 20));
        }
        x.forget();
        S.due("forgotten", x.count(10), 0);
        for (int slot : new int[] {2, 0, 2, 1, 3}) {
            x.hold(slot);
        }
        S.due("three slots", x.count(11), 3);
    }

    private static void countWet() {
        // LOTS of SEED 7: 15, 87, 72, 69, 12, 0.
        HopeDrawer x = Check.drawerWith("wet 70; seed 7;");
        int[] wet = {1, 0, 0, 1, 1, 1};
        for (int day = 0; day < 6; day++) {
            S.due("day " + day, x.count(12), wet[day]);
            x.days(1);
        }
        HopeDrawer y = Check.drawerWith("wet 1; seed 7;");
        y.days(5);
        S.due("a lot of 0 is less than 1", y.count(12), 1);
        HopeDrawer z = Check.drawerWith("wet 99; seed 1;");
        z.days(1);
        S.due("a lot of 99 is not less than 99", z.count(12), 0);
    }

    private static void countSentBack() {
        HopeDrawer x = Check.drawerWith(FULL + "returns = 1;");
        int[] due = {0, 0, 6, 12, 13, 14, 14};
        for (int day = 0; day < due.length; day++) {
            S.due("day " + day, x.count(13), due[day]);
            x.days(1);
        }
    }

    private static void countHad() {
        HopeDrawer x = Check.drawerWith(FULL);
        x.days(1);
        S.due("six", x.count(14), 6);
        x.takeBack(0);
        S.due("taken back", x.count(14), 6);
        x.send(6, 0);
        S.due("sent by hand", x.count(14), 7);
        x.undo();
        S.due("undone", x.count(14), 6);
    }

    private static void countNone() {
        HopeDrawer x = Check.drawerWith(FULL);
        S.due("all six", x.count(15), 63);
        x.days(1);
        S.due("none of them", x.count(15), 0);
        x.takeBack(5);
        S.due("the last", x.count(15), 32);
        x.takeBack(0);
        S.due("the first, too", x.count(15), 33);
    }

    private static void countOthers() {
        HopeDrawer x = Check.drawerWith(FULL);
        for (int what : new int[] {-1, -2, 16, 17, 100, Integer.MIN_VALUE, Integer.MAX_VALUE}) {
            S.due("count " + what, x.count(what), -1);
        }
    }
}
