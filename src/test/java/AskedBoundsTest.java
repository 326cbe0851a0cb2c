import java.math.BigInteger;

/** What comes to pass and what is asked (promises 8 to 16, 19 to 22, 24 to 32, 34): edges and ties. */
public final class AskedBoundsTest extends ByHand {
    /** By MET the fifth is reached by 2222 alone: of any lesser LETTER one ahead of him lacks as much. */
    private static final String BY_2222 = "p1,2,2,2+0;p2,1,2,2+0;p2,2,1,2+0;p2,2,2,1+0;p2,2,2,2+0;";
    /** One for each GOOD, then one by 11 and one by 1100. */
    private static final String SIX = "p9,0,0,0+0;p0,9,0,0+0;p0,0,9,0+0;p0,0,0,9+0;p6,6,0,0+0;p0,0,6,6+0;";

    private AskedBoundsTest() { }

    public static void main(String[] args) {
        lettersThatAreNone();
        score();
        goes();
        goesBySecond();
        post();
        postAndReadOn();
        day();
        can();
        whoAndNever();
        before();
        beforeCheapest();
        met();
        best();
        bestIsTheLast();
        greedy();
        forty();
        fortyAt40();
        think();
        thinkOfGoings();
        tellEdges();
        laws();
        eye();
        surest();
        morning();
        aimPlainTest();
        all();
        ahead();
        both();
        bothOfTen();
        year();
        judge();
        minusNineIsNoRefusal();
        Check.end();
    }

    private static void lettersThatAreNone() {
        promise = "Terms: a LETTER has an AMOUNT (0 .. 5) of each GOOD";
        ToWhoNeeds x = null;
        int refused = 0;
        for (int letter = -600; letter <= 16000; letter++) {
            if (x == null || letter % 400 == 0) {
                x = new ToWhoNeeds();
                refused = 0;
            }
            boolean isLetter = letter <= 9999 && Integer.toString(letter).matches("[0-5]+");
            Check.due(promise + " goes(" + letter + ")", x.goes(letter), isLetter ? -9 : -1);
            refused += isLetter ? 0 : 1;
            if (letter % 400 == 399) {
                due(x.count(11), refused);
            }
        }
        promise = "Terms: told as digits of a number, GOOD 0's the lowest";
        ToWhoNeeds y = with("p5,0,0,0+0;p0,5,0,0+0;p0,0,5,0+0;p0,0,0,5+0;");
        due(y.post(1), 0);
        due(y.post(20), 1);
        due(y.post(300), 2);
        due(y.post(4000), 3);
        for (int good = 0; good < 4; good++) {
            due(y.need(good, good), 4 - good);
        }
    }

    private static void score() {
        promise = "8: SCORE by the LAW, the greatest and 0";
        ToWhoNeeds x = with("p30,30,30,30+0;p1,0,0,0+0;p0,0,0,0+0;p4,5,6,0+0;");
        int[] full = {600, 20, 30, 600, 20};
        int[] fourth = {75, 14, 6, 75, 14};
        for (int law = 0; law <= 4; law++) {
            x.law(law);
            due(x.score(0, 5555), full[law]);
            due(x.score(0, 0), 0);
            due(x.score(1, 5550), 0);
            due(x.score(1, 1), 1);
            due(x.score(2, 5555), 0);
            // Of each GOOD the lesser: 4 of 5, 5 of 5, 5 of 6.
            due(x.score(3, 5555), fourth[law]);
            due(x.score(4, 0), -1);
            due(x.score(3, 5556), -1);
        }
    }

    private static void goes() {
        promise = "9: to the PERSON with the greatest SCORE, of several the least; to none, if that is 0";
        ToWhoNeeds same = with("p2,2,2,2+0;p2,2,2,2+0;p2,2,2,2+0;p2,2,2,2+0;p2,2,2,2+0;p2,2,2,2+0;");
        ToWhoNeeds last = with("p0,1,0,0+0;p0,1,0,0+0;p0,1,0,0+0;p0,1,0,0+0;p0,1,0,0+0;p1,0,0,0+0;");
        ToWhoNeeds none = with("p0,9,9,9+0;p0,9,9,9+0;");
        for (int law = 0; law <= 4; law++) {
            same.law(law);
            last.law(law);
            none.law(law);
            due(same.goes(5555), law == 3 ? 1 : 0);
            due(same.goes(1), law == 3 ? 1 : 0);
            due(same.goes(0), -9);
            due(last.goes(1), 5);
            due(last.goes(5), 5);
            due(none.goes(5), -9);
            due(none.goes(0), -9);
            due(none.goes(5555), law == 3 ? 1 : 0);
        }
        // One more is enough, at each place.
        for (int person = 0; person < 6; person++) {
            ToWhoNeeds x = new ToWhoNeeds();
            for (int p = 0; p < 6; p++) {
                tell(x, p == person ? "p8,0,0,0+0;" : "p7,0,0,0+0;");
            }
            due(x.goes(1), person);
            x.law(2);
            due(x.goes(1), person);
            x.law(1);
            due(x.goes(5), 0);
            x.law(3);
            due(x.goes(1), person == 0 ? 1 : 0);
        }
    }

    private static void goesBySecond() {
        promise = "9: by SECOND to the second by SCORE (then numbers), above 0; else to the first";
        String[] texts = {"p5,0,0,0+0;p5,0,0,0+0;p5,0,0,0+0;", "p3,0,0,0+0;p9,0,0,0+0;p9,0,0,0+0;",
            "p9,0,0,0+0;p3,0,0,0+0;p9,0,0,0+0;", "p3,0,0,0+0;p9,0,0,0+0;p3,0,0,0+0;",
            "p1,0,0,0+0;p2,0,0,0+0;p3,0,0,0+0;", "p0,0,0,0+0;p0,0,0,0+0;p3,0,0,0+0;",
            "p3,0,0,0+0;p0,0,0,0+0;p0,0,0,0+0;", "p3,0,0,0+0;p0,0,0,0+0;p1,0,0,0+0;",
            "p0,9,0,0+0;p0,9,0,0+0;p0,0,0,0+0;"};
        int[] to = {1, 2, 2, 0, 1, 2, 0, 2, -9};
        for (int i = 0; i < texts.length; i++) {
            ToWhoNeeds x = with(texts[i]);
            x.law(3);
            due(x.goes(1), to[i]);
            due(x.post(1), to[i]);
        }
    }

    private static void post() {
        promise = "10: each NEED is less by its AMOUNT (0 at least); who gets it first; -9 none";
        for (int law = 0; law <= 4; law++) {
            ToWhoNeeds x = with("p4,5,6,0+0;");
            x.law(law);
            due(x.post(5555), 0);
            due(x.need(0, 0), 0);
            due(x.need(0, 1), 0);
            due(x.need(0, 2), 1);
            due(x.need(0, 3), 0);
            due(x.post(5055), 0 - 9);
            due(x.post(0), -9);
            due(x.allNeed(), 1);
            due(x.post(5555), 0);
            due(x.post(5555), -9);
            due(x.allNeed(), 0);
            due(x.count(7), 5);
            due(x.post(10000), -1);
            due(x.count(7), 5);
        }
    }

    private static void postAndReadOn() {
        promise = "10: by READ ON it goes on while the greatest SCORE is above 0: all HAVE it";
        ToWhoNeeds x = with("p1,0,0,0+0;p0,3,0,0+0;p1,9,0,0+0;p0,0,1,0+0;p0,0,0,9+0;p2,0,0,0+0;");
        x.law(4);
        due(x.post(121), 2);
        due(x.need(0, 0), 0);
        due(x.need(1, 1), 1);
        due(x.need(2, 0), 0);
        due(x.need(2, 1), 7);
        due(x.need(3, 2), 0);
        due(x.need(4, 3), 9);
        due(x.need(5, 0), 1);
        // One PERSON alone, and each but once.
        due(x.post(1), 5);
        due(x.allNeed(), 1 + 7 + 9);
        due(x.post(1), -9);
    }

    private static void day() {
        promise = "11: each NEED of each PERSON is GROWTH more (30 at most)";
        ToWhoNeeds x = with("p28,29,30,0+1;p20,21,22,30+9;p0,1,29,30+0;p0,0,0,0+9;");
        due(x.day(), 29 + 30 + 30 + 1 + 29 + 30 + 30 + 30 + 60 + 36);
        int[] first = {29, 30, 30, 1};
        int[] second = {29, 30, 30, 30};
        int[] third = {0, 1, 29, 30};
        for (int good = 0; good < 4; good++) {
            due(x.need(0, good), first[good]);
            due(x.need(1, good), second[good]);
            due(x.need(2, good), third[good]);
            due(x.need(3, good), 9);
        }
        // The sixth grows as well.
        ToWhoNeeds y = with("p0,0,0,0+0;p0,0,0,0+0;p0,0,0,0+0;p0,0,0,0+0;p0,0,0,0+0;p0,0,0,0+7;");
        due(y.day(), 28);
        due(y.need(5, 3), 7);
        due(y.allNeed(), 28);
        ToWhoNeeds full = with("p30,30,30,30+9;p30,30,30,30+9;p30,30,30,30+9;p30,30,30,30+9;",
            "p30,30,30,30+9;p30,30,30,30+9;");
        due(full.day(), 720);
        due(full.allNeed(), 720);
    }

    private static void can() {
        promise = "13: LETTERS of TWO: AMOUNTS 0 .. 2";
        ToWhoNeeds x = with("p2,0,0,0+0;p3,0,0,0+0;");
        x.law(1);
        due(x.goes(3), 1);
        due(x.can(1), -9);
        due(x.can(0), 1);
        ToWhoNeeds y = with("p1,0,0,0+0;p2,0,0,0+0;");
        y.law(1);
        due(y.can(1), 2);
        ToWhoNeeds z = with(BY_2222);
        due(z.can(4), 1111);
        z.law(1);
        due(z.can(4), 2222);
        promise = "13: the cheapest, of several the first by numbers; -9";
        due(with("p5,5,5,5+0;").can(0), 1);
        due(with("p0,5,5,5+0;").can(0), 10);
        due(with("p0,0,5,5+0;").can(0), 100);
        due(with("p0,0,0,5+0;").can(0), 1000);
        due(with("p0,0,0,0+0;").can(0), -9);
        // By 11 too, but 1000 is cheaper; then 101 and 1010 are as cheap as 110.
        due(with("p5,0,0,0+0;p0,5,0,0+0;p3,3,0,1+0;").can(2), 1000);
        due(with("p5,0,0,0+0;p0,5,0,0+0;p0,0,5,5+0;p3,3,3,3+0;").can(3), 11);
        due(with("p5,5,0,0+0;p0,0,5,5+0;p3,3,3,3+0;").can(2), 101);
        due(with(SIX).can(5), 1100);
        due(with(SIX).can(6), -1);
        due(with(SIX).can(-1), -1);
    }

    private static void whoAndNever() {
        promise = "14: PERSONS (bits) to whom some of these GO. 15: if none GOES to a PERSON, those (bits); else 0";
        ToWhoNeeds x = with(SIX);
        due(x.who(), 63);
        for (int person = 0; person < 6; person++) {
            due(x.never(person), 0);
        }
        due(x.never(6), -1);
        due(x.never(-1), -1);
        ToWhoNeeds y = with("p9,0,0,0+0;p8,0,0,0+0;p0,0,0,0+0;p0,0,0,1+0;");
        due(y.who(), 9);
        due(y.never(0), 0);
        due(y.never(1), 9);
        due(y.never(2), 9);
        due(y.never(3), 0);
        y.law(3);
        due(y.who(), 10);
        due(y.never(0), 10);
        due(y.never(1), 0);
        // Nobody is reached: no bits, as for him who is.
        ToWhoNeeds none = with("p0,0,0,0+0;");
        due(none.who(), 0);
        due(none.never(0), 0);
        due(new ToWhoNeeds().who(), 0);
        due(new ToWhoNeeds().never(0), -1);
        ToWhoNeeds z = with(BY_2222);
        z.law(1);
        due(z.who(), 31);
        due(z.never(4), 0);
    }

    private static void before() {
        promise = "16: the fewest beforehand (0, 1, 2); -9; the least COST of those";
        // He who has more must come below 2 for PERSON 1, to 2 for PERSON 0.
        int[][] dues = {{2, 1, 1}, {3, 1, 2}, {4, 2, 3}, {5, 2, 4}, {6, -9, -9}, {29, -9, -9}};
        for (int[] due : dues) {
            ToWhoNeeds x = with("p" + due[0] + ",0,0,0+0;p2,0,0,0+0;");
            due(x.before(1, 0), due[1]);
            due(x.before(1, 1), due[2]);
            due(x.before(0, 0), 0);
            due(x.before(0, 1), 0);
            due(x.before(0, 2), -2);
            due(x.before(0, -1), -2);
            due(x.before(2, 0), -1);
            due(x.before(2, 2), -1);
            due(x.before(-1, 0), -1);
            ToWhoNeeds y = with("p2,0,0,0+0;p" + (due[0] + 1) + ",0,0,0+0;");
            due(y.before(0, 0), due[1]);
            due(y.before(0, 1), due[2]);
        }
        due(with("p1,0,0,0+0;p2,0,0,0+0;").before(1, 0), 0);
        due(with("p0,0,0,0+0;").before(0, 0), -9);
        due(with("p0,0,0,0+0;").before(0, 1), -9);
        // 2222 is among those beforehand, and among those behind.
        ToWhoNeeds z = with(BY_2222);
        z.law(1);
        due(z.before(4, 0), 0);
        ToWhoNeeds w = with("p2,2,2,2+0;p1,1,1,1+0;");
        w.law(2);
        // By MOST one GOOD of his must be less than 1, so it is 2 of that.
        due(w.before(1, 0), 1);
        due(w.before(1, 1), 2);
    }

    private static void beforeCheapest() {
        promise = "16: the least COST with so many, though more of them were cheaper";
        // 21 to 0 leaves him (0, 1), then 11 goes to 1: 3. With 1 and 1 (to 2, then to 0) it were 2.
        ToWhoNeeds x = with("p1,3,0,0+0;p1,1,0,0+0;p2,0,0,0+0;");
        due(x.before(1, 0), 1);
        due(x.before(1, 1), 3);
        due(x.post(1), 2);
        due(x.before(1, 1), 1);
        due(x.post(1), 0);
        due(x.can(1), 1);
    }

    private static void met() {
        promise = "19: the first n digits of a number, the lowest first";
        ToWhoNeeds x = with("p30,0,0,0+0;");
        due(x.met(0, 0), 0);
        due(x.met(1, 0), -1);
        for (int told = 1; told <= 5; told++) {
            due(x.order(told), told);
            due(x.met(1, told - 1), told);
            due(x.met(1, told), -1);
            due(x.met(1, 9), -1);
            due(x.met(told, 43210), told * (told + 1) / 2);
            due(x.met(0, 99999), 0);
            due(x.met(-1, 0), -4);
            due(x.met(6, 43210), -6);
            due(x.met(-1, 9), -4);
            due(x.met(6, 99), -6);
        }
        due(x.met(5, 1234), 15);
        due(x.met(4, 1234), 14);
        due(x.met(4, 43210), 10);
        due(x.met(2, 43210), 3);
        // Digits beyond the first n are not looked at.
        due(x.met(1, 98760), 1);
        due(x.met(2, 14), 7);
        due(x.met(3, 914), -1);
        due(x.met(2, 44), -1);
        due(x.met(2, 4), 6);
        due(x.met(3, 4), -1);
        due(x.met(5, 53210), -1);
        due(x.met(5, 13210), -1);
        due(x.met(1, Integer.MAX_VALUE), -1);
        due(x.met(1, Integer.MIN_VALUE), -1);
        due(x.met(0, Integer.MIN_VALUE), 0);
        due(x.met(Integer.MIN_VALUE, 0), -4);
        due(x.met(Integer.MAX_VALUE, 0), -6);
        due(x.allNeed(), 30);
        x.forget();
        due(x.met(1, 0), -1);
        due(x.met(0, 0), 0);
    }

    private static void best() {
        promise = "20: how much (i -1), its i-th; -9 none such; -4. Of several the first by numbers";
        ToWhoNeeds x = with("p30,0,0,0+0;");
        due(x.best(-2), -4);
        due(x.best(Integer.MIN_VALUE), -4);
        due(x.best(-1), 0);
        due(x.best(0), -9);
        for (int told = 1; told <= 5; told++) {
            x.order(told);
            due(x.best(-1), told * (told + 1) / 2);
            due(x.best(-2), -4);
            for (int i = 0; i < told; i++) {
                due(x.best(i), i);
            }
            due(x.best(told), -9);
            due(x.best(Integer.MAX_VALUE), -9);
        }
        // None of them meets anything: the first all the same.
        ToWhoNeeds none = with("p0,0,0,0+0;");
        none.order(5);
        none.order(1);
        due(none.best(-1), 0);
        due(none.best(0), 0);
        due(none.best(1), 1);
    }

    private static void bestIsTheLast() {
        promise = "20: the order with most, of all";
        ToWhoNeeds x = with("p8,3,0,0+0;p5,8,0,0+0;p5,6,0,0+0;");
        x.law(3);
        for (int letter : new int[] {55, 25, 4, 54, 52}) {
            x.order(letter);
        }
        due(x.best(-1), x.met(5, 1234));
        for (int i = 0; i < 5; i++) {
            due(x.best(i), 4 - i);
        }
        for (int line = 1235; line <= 43210; line++) {
            boolean isLine = ("" + (line + 100000)).substring(1).chars().distinct().count() == 5
                && ("" + line).matches("[0-4]+");
            if (isLine) {
                Check.due(promise + " met(5, " + line + ") is less", x.met(5, line) < x.met(5, 1234) ? 1 : 0, 1);
            }
        }
    }

    private static void greedy() {
        promise = "21: each time the one by most (of several the first)";
        ToWhoNeeds none = new ToWhoNeeds();
        due(none.greedy(), 0);
        none.order(5);
        due(none.greedy(), 0);
        // Both meet 1: the first of them, 11 to 0 or 1 to 0, leaves the other less or as much.
        String two = "p1,0,0,0+0;p0,1,0,0+0;";
        ToWhoNeeds x = with(two);
        x.order(11);
        x.order(1);
        due(x.greedy(), 1);
        ToWhoNeeds y = with(two);
        y.order(1);
        y.order(11);
        due(y.greedy(), 2);
        due(y.best(-1), 2);
        // Five, the last of them by most each time.
        ToWhoNeeds z = with("p30,0,0,0+0;");
        for (int letter = 1; letter <= 5; letter++) {
            z.order(letter);
            due(z.greedy(), letter * (letter + 1) / 2);
        }
        // One that meets none is POSTED too, and changes nothing.
        ToWhoNeeds w = with("p2,0,0,0+0;");
        w.order(50);
        w.order(2);
        w.order(0);
        due(w.greedy(), 2);
    }

    private static void forty() {
        promise = "22: till n PERSONS have had it; -9. -1; -4; -6 more than there are PERSONS";
        due(new ToWhoNeeds().forty(0, 0), 0);
        due(new ToWhoNeeds().forty(5555, 1), -6);
        due(new ToWhoNeeds().forty(5555, -1), -4);
        due(new ToWhoNeeds().forty(5556, -1), -1);
        due(new ToWhoNeeds().forty(5556, 1), -1);
        ToWhoNeeds x = with("p3,0,0,0+0;p3,0,0,0+0;p3,0,0,0+0;p3,0,0,0+0;p3,0,0,0+0;p3,0,0,0+0;");
        for (int n = 0; n <= 6; n++) {
            due(x.forty(1, n), n);
            due(x.forty(0, n), n == 0 ? 0 : -9);
        }
        due(x.forty(1, 7), -6);
        due(x.forty(1, -1), -4);
        due(x.forty(1, Integer.MAX_VALUE), -6);
        due(x.forty(1, Integer.MIN_VALUE), -4);
        x.law(4);
        // All HAVE it at once, but none whose SCORE is 0.
        ToWhoNeeds y = with("p0,9,0,0+0;p2,0,0,0+0;p1,0,0,0+0;");
        y.law(4);
        due(y.forty(1, 2), 1);
        due(y.forty(1, 3), -9);
        due(y.forty(10, 1), 1);
        due(y.forty(10, 2), -9);
        due(x.forty(1, 0), 0);
        due(x.forty(1, 1), 1);
        due(x.forty(1, 6), 1);
        due(x.forty(1, 7), -6);
        due(x.allNeed(), 18);
    }

    private static void fortyAt40() {
        promise = "22: 40 at most";
        // Down to 9, 9 and 9, then once more to 0 and 1: the next goes to 2.
        due(with("p28,0,0,0+0;p27,0,0,0+0;p9,0,0,0+0;").forty(1, 3), 40);
        due(with("p29,0,0,0+0;p27,0,0,0+0;p9,0,0,0+0;").forty(1, 3), -9);
        due(with("p29,0,0,0+0;p28,0,0,0+0;p9,0,0,0+0;").forty(1, 3), -9);
        due(with("p27,0,0,0+0;p27,0,0,0+0;p9,0,0,0+0;").forty(1, 3), 39);
    }

    private static void think() {
        promise = "24: values 0 .. 30: the least (what 0; -9), the greatest (1; -9), how many (2)";
        ToWhoNeeds x = with("p7,7,7,7+0;p29,0,0,0+0;");
        for (int good = 0; good < 4; good++) {
            due(x.think(0, good, 0), 0);
            due(x.think(0, good, 1), 30);
            due(x.think(0, good, 2), 31);
        }
        due(x.think(0, 4, 0), -1);
        due(x.think(0, -1, 0), -1);
        due(x.think(2, 0, 0), -1);
        due(x.think(-1, 0, 0), -1);
        due(x.think(0, 0, 3), -2);
        due(x.think(0, 0, -1), -2);
        due(x.think(2, 0, 3), -1);
        // 1 gets it but where 0 has 29 at least: two values.
        x.going(1, 0);
        due(x.think(0, 0, 0), 29);
        due(x.think(0, 0, 1), 30);
        due(x.think(0, 0, 2), 2);
        due(x.need(0, 0), 7);
    }

    private static void thinkOfGoings() {
        promise = "24: values with which all told GOINGS are so";
        // Only 0, only 30, none.
        ToWhoNeeds x = with("p5,0,0,0+0;");
        x.going(1, -1);
        due(x.think(0, 0, 0), 0);
        due(x.think(0, 0, 1), 0);
        due(x.think(0, 0, 2), 1);
        due(x.think(0, 1, 0), -9);
        due(x.think(0, 1, 1), -9);
        due(x.think(0, 1, 2), 0);
        ToWhoNeeds y = with("p29,0,0,0+0;p1,0,0,0+0;");
        y.going(1, 1);
        due(y.think(1, 0, 0), 30);
        due(y.think(1, 0, 1), 30);
        due(y.think(1, 0, 2), 1);
        due(y.think(0, 0, 0), 0);
        due(y.think(0, 0, 1), 0);
        due(y.think(0, 0, 2), 1);
        // All six count: the sixth leaves none.
        ToWhoNeeds z = with("p9,9,9,9+0;p4,5,0,0+0;");
        for (int i = 1; i <= 5; i++) {
            due(z.going(1, 1), i);
            due(z.think(0, 0, 2), 4);
        }
        due(z.going(1, 0), 6);
        due(z.think(0, 0, 2), 0);
        due(z.think(0, 0, 0), -9);
        // The sixth alone leaves less, and leaves some.
        ToWhoNeeds sixth = with("p9,9,9,9+0;p4,5,0,0+0;");
        for (int i = 1; i <= 5; i++) {
            sixth.going(0, -1);
        }
        due(sixth.think(0, 0, 2), 31);
        due(sixth.going(1, 0), 6);
        due(sixth.think(0, 0, 0), 4);
        due(sixth.think(0, 0, 2), 27);
        // Nobody HAD it: each GOING is as if it were the first.
        ToWhoNeeds w = with("p2,0,0,0+0;p1,0,0,0+0;");
        w.going(1, 0);
        w.going(1, 0);
        w.going(1, 0);
        due(w.think(0, 0, 0), 1);
        due(w.think(0, 0, 2), 30);
        // By the LAW as it is told now.
        w.law(3);
        due(w.think(0, 0, 2), 0);
    }

    private static void tellEdges() {
        promise = "25: the most unlike PERSONS (none counts too), of several the first; -3 no value fits";
        // To 1 with 30 alone; to none with 0 alone.
        due(with("p29,0,0,0+0;p1,0,0,0+0;").tell(1, 0), 1);
        due(with("p0,0,0,0+0;").tell(0, 0), 1);
        due(with("p0,0,0,0+0;").tell(0, 3), 1000);
        // All LETTERS tell the same one thing: the first.
        ToWhoNeeds x = with("p30,0,0,0+0;p1,0,0,0+0;");
        due(x.tell(1, 0), 0);
        due(x.tell(1, 4), -1);
        due(x.tell(1, -1), -1);
        due(x.tell(2, 0), -1);
        due(x.tell(-1, 0), -1);
        due(x.count(13), 0);
        x.going(1, 1);
        due(x.tell(1, 0), -3);
        due(x.tell(2, 0), -1);
        due(x.tell(1, 4), -1);
        due(x.count(13), 1);
        // One value fits: nothing is unlike, the first.
        ToWhoNeeds one = with("p5,0,0,0+0;");
        one.going(1, -1);
        due(one.tell(0, 0), 0);
        // Three unlike: by SECOND with 10 to 1, to the unknown 0 or, if he has most, to 2.
        ToWhoNeeds y = with("p0,4,0,0+0;p0,0,0,0+0;p0,7,0,0+0;");
        y.law(3);
        due(y.tell(1, 1), 10);
        // By 1 none or 0, by 11 one or the other: the first of both, since none counts.
        ToWhoNeeds z = with("p0,0,0,0+0;p0,5,0,0+0;");
        due(z.tell(0, 0), 1);
        // None is another than the last of six.
        due(with("p0,0,0,0+0;p0,0,0,0+0;p0,0,0,0+0;p0,0,0,0+0;p0,0,0,0+0;p0,0,0,0+0;").tell(5, 1), 10);
        ToWhoNeeds last = with(BY_2222);
        last.law(1);
        // Below 2 his 2222 goes to 0; every other LETTER goes to one ahead of him anyway.
        due(last.tell(4, 0), 2222);
    }

    private static void laws() {
        promise = "26: (bits) by which some LETTER of TWO GOES to a PERSON";
        due(with("p1,0,0,0+0;").laws(0), 31);
        due(with("p0,0,0,0+0;").laws(0), 0);
        due(with("p0,0,0,0+0;").laws(1), -1);
        due(with("p0,0,0,0+0;").laws(-1), -1);
        ToWhoNeeds x = with(BY_2222);
        // By MOST he is behind those ahead of him with 2 as well.
        due(x.laws(4), 1 + 2 + 8 + 16);
        due(x.laws(5), -1);
        for (int law = 0; law <= 4; law++) {
            x.law(law);
            due(x.laws(4), 27);
            due(x.can(4) == -9 ? 0 : 1, 27 >> law & 1);
        }
        ToWhoNeeds y = with("p9,0,0,0+0;p2,0,0,0+0;p1,0,0,0+0;");
        due(y.laws(0), 23);
        due(y.laws(1), 8);
        due(y.laws(2), 0);
    }

    private static void eye() {
        promise = "27: ERR hundredths to the second (above 0; else as it is), in least terms";
        ToWhoNeeds x = with("p9,0,0,5+0;p3,3,0,0+0;p1,0,0,0+0;");
        for (int law = 0; law <= 4; law++) {
            x.law(law);
            int first = law == 3 ? 1 : 0;
            for (int err = 0; err <= 50; err++) {
                x.err(err);
                int shared = BigInteger.valueOf(100).gcd(BigInteger.valueOf(err)).intValue();
                Check.due(promise + " first", x.eye(first, 1, 0), (100 - err) / shared);
                Check.due(promise + " first", x.eye(first, 1, 1), 100 / shared);
                Check.due(promise + " second", x.eye(1 - first, 1, 0), err / shared);
                Check.due(promise + " second", x.eye(1 - first, 1, 1), 100 / shared);
                if (err % 17 == 0) {
                    due(x.eye(2, 1, 0), 0);
                    due(x.eye(2, 1, 1), 1);
                }
            }
            // The second's SCORE is 0: as it is, whatever the ERR.
            due(x.eye(0, 1000, 0), 1);
            due(x.eye(0, 1000, 1), 1);
            due(x.eye(1, 1000, 0), 0);
            due(x.eye(1, 10, 0), 1);
            due(x.eye(0, 10, 0), 0);
            due(x.eye(0, 10, 1), 1);
            due(x.eye(0, 0, 0), 0);
            due(x.eye(0, 0, 1), 1);
            ToWhoNeeds y = with("p9,0,0,5+0;p3,3,0,0+0;p1,0,0,0+0;");
            y.law(law);
            due(y.eye(3, 1, 0), -1);
            due(y.eye(-1, 1, 0), -1);
            due(y.eye(0, 6, 0), -1);
            due(y.eye(0, 1, 2), -2);
            due(y.eye(0, 1, -1), -2);
            due(y.eye(3, 1, 2), -1);
            due(y.eye(0, 6, 2), -1);
            x = with("p9,0,0,5+0;p3,3,0,0+0;p1,0,0,0+0;");
        }
    }

    private static void surest() {
        promise = "28: the greatest such chance above 0, of several the cheapest, then the first; -9";
        ToWhoNeeds x = with("p9,0,0,0+0;p3,0,0,0+0;p1,0,0,0+0;");
        due(x.surest(0), 1);
        due(x.surest(1), -9);
        x.err(1);
        due(x.surest(1), 1);
        due(x.surest(2), -9);
        x.err(50);
        due(x.surest(0), 1);
        due(x.surest(1), 1);
        due(x.surest(2), -9);
        due(x.surest(3), -1);
        due(x.surest(-1), -1);
        due(with("p0,0,0,0+0;").surest(0), -9);
        // By 11 he is the first, by 1 and 10 the second: up to 49 of a hundred the dearer is surer.
        ToWhoNeeds y = with("p5,0,0,0+0;p0,5,0,0+0;p3,3,0,0+0;");
        due(y.surest(2), 11);
        y.err(49);
        due(y.surest(2), 11);
        y.err(50);
        due(y.surest(2), 1);
        // Alone in a GOOD he is sure.
        ToWhoNeeds z = with("p5,0,0,0+0;p3,0,0,1+0;");
        z.err(50);
        due(z.surest(1), 1000);
        due(z.surest(0), 1);
        // As sure by 101 as by 110, and by 1010: the first of the cheapest.
        due(with("p5,5,0,0+0;p0,0,5,5+0;p3,3,3,3+0;").surest(2), 101);
        // By 11 as sure as by 1000, which is cheaper; or surer by 11, though 1000 is cheaper.
        due(with("p5,0,0,0+0;p0,5,0,0+0;p3,3,0,1+0;").surest(2), 1000);
        ToWhoNeeds w = with("p5,0,0,1+0;p0,5,0,0+0;p3,3,0,1+0;");
        w.err(20);
        due(w.surest(2), 11);
        // The second by 11 and by 100, in one of a hundred.
        ToWhoNeeds v = with("p9,9,9,0+0;p3,0,0,0+0;p0,3,0,0+0;p2,2,2,0+0;");
        v.err(1);
        due(v.surest(3), 100);
        ToWhoNeeds last = with(BY_2222);
        last.law(1);
        due(last.surest(4), 2222);
    }

    private static void morning() {
        promise = "29: LUCK: how many get to his PERSON (first)";
        due(new ToWhoNeeds().morning(), 0);
        due(with("p9,0,0,0+0;").morning(), 0);
        ToWhoNeeds x = with("p9,0,0,0+0;p0,9,0,0+0;wp0;l1000;wp1;l0100;wp1;l0100;wp0;l1000;");
        due(x.morning(), 4);
        due(x.allNeed(), 14);
        due(x.count(7), 4);
        due(x.count(4), 0);
        // Not to his, to none.
        ToWhoNeeds y = with("p9,0,0,0+0;p0,9,0,0+0;wp1;l1000;wp0;l0100;wp0;l0010;wp0;");
        due(y.morning(), 0);
        due(y.allNeed(), 16);
        due(y.count(7), 4);
        promise = "29: by numbers, each POSTED at once";
        // The first leaves nothing for the second.
        ToWhoNeeds z = with("p3,0,0,0+0;wp0;l5000;wp0;l5000;");
        due(z.morning(), 1);
        due(z.morning(), 0);
        due(z.count(7), 4);
        // Behind the first WRITER's LETTER the second's CAN is another.
        ToWhoNeeds w = with("p2,0,0,0+0;p1,9,0,0+0;wp0;l2000;wa1;");
        due(w.writes(1), 10);
        due(w.morning(), 2);
        due(w.need(1, 0), 0);
        due(w.need(1, 1), 9);
        due(new ToWhoNeeds().writes(0), -1);
    }

    private static void aimPlainTest() {
        promise = "30: PLAIN the told one; AIM CAN's, without one the told one; TEST on days of odd number as AIM";
        ToWhoNeeds x = with("p9,0,0,0+1;p8,1,0,0+1;p1,0,0,0+0;wp1;l5555;wa1;l5555;wt1;l5555;wa2;l0005;");
        due(x.writes(0), 5555);
        due(x.writes(1), 10);
        due(x.writes(3), 5000);
        due(x.writes(4), -1);
        due(x.writes(-1), -1);
        for (int day = 0; day <= 5; day++) {
            due(x.count(4), day);
            due(x.writes(0), 5555);
            due(x.writes(2), day % 2 == 1 ? 10 : 5555);
            x.day();
        }
        // 0000 where nothing was told.
        ToWhoNeeds y = with("p9,0,0,0+0;p1,0,0,0+0;wp0;wa1;wt1;wh1;");
        for (int w = 0; w < 4; w++) {
            due(y.writes(w), 0);
        }
        y.day();
        due(y.writes(2), 0);
    }

    private static void all() {
        promise = "30: ALL: by most, of several the cheapest, then the first";
        due(with("p0,0,0,0+0;wm0;l5555;").writes(0), 0);
        due(with("p1,0,0,0+0;wm0;").writes(0), 1);
        due(with("p2,0,0,0+0;wm0;").writes(0), 2);
        due(with("p3,0,0,0+0;wm0;").writes(0), 2);
        due(with("p9,9,9,9+0;wm0;").writes(0), 2222);
        due(with("p1,0,0,0+0;p0,1,0,0+0;wm0;").writes(0), 1);
        due(with("p0,1,0,0+0;p1,0,0,0+0;wm0;").writes(0), 1);
        due(with("p0,0,0,1+0;p0,1,0,0+0;wm0;").writes(0), 10);
        // 221 meets 3 as well (111 goes to the second, who has 1 of it), but costs more than 2100.
        due(with("p1,1,1,0+0;p5,0,0,0+0;p0,0,1,2+0;wm0;").writes(0), 2100);
        // By READ ON both have their own of 11.
        ToWhoNeeds x = with("p1,0,0,0+0;p0,1,0,0+0;wm0;");
        x.law(4);
        due(x.writes(0), 11);
        due(x.morning(), 1);
        due(x.allNeed(), 0);
        due(x.writes(0), 0);
    }

    private static void ahead() {
        promise = "30: AHEAD: behind which CAN's is cheaper than now (any, if there is none now); without one as AIM";
        // None now: behind 1 or behind 2 (to 0) he is reached; the cheapest.
        due(with("p2,0,0,0+0;p2,0,0,0+0;wh1;l5555;").writes(0), 1);
        due(with("p3,0,0,0+0;p2,0,0,0+0;wh1;l5555;").writes(0), 2);
        due(with("p4,0,0,0+0;p2,0,0,0+0;wh1;l5555;").writes(0), 5555);
        // None now; behind 11, which the third gets, for 2 (11): any will do.
        due(with("p5,0,0,0+0;p0,5,0,0+0;p4,4,0,0+0;p4,4,0,0+0;wh3;l5555;").writes(0), 11);
        // Reached for 1, which nothing makes less: as AIM.
        due(with("p2,0,0,0+0;p0,4,0,0+0;wh1;l5555;").writes(0), 10);
        // Behind 2 he were reached for 2 (11), which is dearer: as AIM.
        due(with("p5,2,0,0+0;p4,0,0,0+0;p0,3,0,0+0;wh0;l5555;").writes(0), 1);
        // Reached for 2 (11): behind 1 or behind 10 for 1; the first of them.
        due(with("p4,0,0,0+0;p4,4,0,0+0;p0,5,0,0+0;wh1;").writes(0), 1);
        due(with("p5,0,0,0+0;p4,4,0,0+0;p0,5,0,0+0;wh1;").writes(0), 10);
        due(with("p5,0,0,0+0;p4,4,0,0+0;p0,6,0,0+0;wh1;").writes(0), 2);
        due(with("p5,0,0,0+0;p4,4,0,0+0;p0,6,0,0+0;wh1;").can(1), 11);
    }

    private static void both() {
        promise = "31: till neither changes, that counted: after how many; -1 (one twice, too)";
        ToWhoNeeds x = with("p5,0,0,0+0;p0,5,0,0+0;wp0;l1000;wm1;l0100;wt0;");
        due(x.both(0, 1), 1);
        due(x.both(1, 0), 1);
        due(x.both(2, 1), 2);
        due(x.both(1, 2), 2);
        for (int w = -1; w <= 4; w++) {
            due(x.both(w, w), -1);
            due(x.both(w, 3), -1);
            due(x.both(3, w), -1);
            due(x.both(w, -1), -1);
            due(x.both(-1, w), -1);
        }
        due(x.count(11), 30);
        due(x.writer(2, 2), 0);
        due(x.allNeed(), 10);
        due(x.count(7), 0);
    }

    private static void bothOfTen() {
        promise = "31: 10 rounds at most; -9";
        String four = "p1,5,3,1+0;p4,1,1,4+0;p2,2,3,3+0;p8,4,4,5+0;wp3;l5312;wp2;l5213;";
        due(rounds(with(four), 4), 10);
        due(bothBy(with(four), 4), 10);
        String more = "p6,2,1,3+0;p1,3,2,1+0;p2,3,3,2+0;p5,7,4,7+0;wp3;l2425;wp2;l3421;";
        due(rounds(with(more), 4), 11);
        due(bothBy(with(more), 4), -9);
        String endless = "p1,0,0,0+0;p1,0,0,0+0;wp0;wp1;";
        due(rounds(with(endless), 0), 40);
        due(bothBy(with(endless), 0), -9);
    }

    private static int bothBy(ToWhoNeeds x, int law) {
        x.law(law);
        return x.both(0, 1);
    }

    /** The rounds of WRITERS 0 and 1 by a LAW, each by POST, CAN and ON; 40 at most. */
    private static int rounds(ToWhoNeeds x, int law) {
        x.law(law);
        x.image();
        int[] letters = {x.writer(0, 2), x.writer(1, 2)};
        for (int round = 1; round < 40; round++) {
            boolean changed = false;
            for (int w = 0; w < 2; w++) {
                x.post(letters[1 - w]);
                int can = x.can(x.writer(w, 1));
                int letter = can == -9 ? x.writer(w, 2) : can;
                changed |= letter != letters[w];
                letters[w] = letter;
                x.on();
            }
            if (!changed) {
                return round;
            }
        }
        return 40;
    }

    /** YEAR against the same LETTERS POSTED and DAYS that come to pass. */
    private static void year() {
        promise = "32: n DAYS (1 .. 30) with a seed; -4; -6 30";
        String text = "p30,3,7,11+1;p9,9,9,9+0;p0,0,20,0+2;";
        for (int z : new int[] {0, 1, -1, 1013904223, -1013904223, Integer.MAX_VALUE, Integer.MIN_VALUE, 4711}) {
            ToWhoNeeds real = with(text);
            ToWhoNeeds x = with(text);
            int seed = z;
            for (int n = 1; n <= 30; n++) {
                int letter = 0;
                for (int unit = 1; unit <= 1000; unit *= 10) {
                    seed = seed * 1664525 + 1013904223;
                    letter += unit * ((seed & Integer.MAX_VALUE) / 256 % 3);
                }
                real.post(letter);
                int need = real.day();
                Check.due(promise + " year(" + n + ", " + z + ")", x.year(n, z), need);
            }
            due(x.year(31, z), -6);
            due(x.year(0, z), -4);
            due(x.year(Integer.MAX_VALUE, z), -6);
            due(x.year(Integer.MIN_VALUE, z), -4);
            due(x.count(4), 0);
            due(x.count(14), 2);
            due(x.count(16), 2);
        }
    }

    private static void judge() {
        promise = "34: the first that does not GO so; where it ends, if too short; how many LETTERS, if too long; else -9";
        ToWhoNeeds x = with("p3,0,0,0+0;p2,0,0,0+0;");
        due(judged(x), -9);
        due(judged(x, 9), 0);
        due(judged(x, 9, 9, 9, 9, 9, 9, 9, 9), 0);
        // 2 to 0, 1 to 1, 10 to none, 1 to 0, 0 to none.
        for (int letter : new int[] {2, 1, 10, 1, 0}) {
            x.order(letter);
        }
        due(judged(x), 0);
        due(judged(x, 0), 1);
        due(judged(x, 0, 1, 9, 0), 4);
        due(judged(x, 0, 1, 9, 0, 9), -9);
        due(judged(x, 0, 1, 9, 0, 9, 9), 5);
        due(judged(x, 0, 1, 9, 0, 9, 0, 0, 0), 5);
        due(judged(x, 1), 0);
        due(judged(x, 0, 0), 1);
        due(judged(x, 0, 1, 8), 2);
        due(judged(x, 0, 1, 0, 0, 9), 2);
        due(judged(x, 0, 1, 9, 1, 9), 3);
        due(judged(x, 0, 1, 9, 0, 0), 4);
        due(judged(x, 0, 1, 9, 0, 8, 9, 9, 9), 4);
        due(judged(x, 9, 1, 9, 0, 9), 0);
        due(x.allNeed(), 5);
        due(x.count(7), 0);
        due(x.count(2), 5);
        due(refusals(x), 0);
    }

    private static int judged(ToWhoNeeds x, int... persons) {
        rows(x, persons);
        int answer = x.judge();
        Check.due(promise + ": the ROW has none then", x.count(5), 0);
        return answer;
    }

    private static void minusNineIsNoRefusal() {
        promise = "REFUSALS: -9 is none";
        ToWhoNeeds x = with("p9,0,0,0+0;p8,0,0,0+0;p0,0,0,0+0;wp0;wp0;");
        due(x.goes(10), -9);
        due(x.post(10), -9);
        due(x.can(1), -9);
        due(x.before(2, 0), -9);
        due(x.before(2, 1), -9);
        due(x.best(0), -9);
        due(x.forty(10, 1), -9);
        due(x.surest(1), -9);
        due(x.judge(), -9);
        due(x.count(9), -9);
        x.going(1, -1);
        due(x.think(0, 1, 0), -9);
        due(x.think(0, 1, 1), -9);
        ToWhoNeeds y = with("p1,0,0,0+0;p1,0,0,0+0;wp0;wp1;");
        due(y.both(0, 1), -9);
        due(refusals(x), 0);
        due(refusals(y), 0);
    }
}
