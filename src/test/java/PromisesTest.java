/** Each promise of the document by hand: ordinary inputs, the edges that it names, wrong inputs. */
public final class PromisesTest extends ByHand {
    private PromisesTest() { }

    public static void main(String[] args) {
        newObject();
        letter();
        parish();
        parishFaults();
        parishLimits();
        need();
        writer();
        law();
        err();
        score();
        goes();
        post();
        day();
        can();
        who();
        before();
        order();
        best();
        bestOfAll();
        greedy();
        forty();
        think();
        tell();
        laws();
        eye();
        surest();
        morning();
        writes();
        ahead();
        both();
        year();
        judge();
        image();
        imageAndPosted();
        imageAndNotTold();
        count();
        inMind();
        Check.end();
    }

    private static void newObject() {
        promise = "1 a new object";
        ToWhoNeeds x = new ToWhoNeeds();
        for (int what = 0; what <= 7; what++) {
            due(x.count(what), 0);
        }
        for (int what = 11; what <= 16; what++) {
            due(x.count(what), 0);
        }
        due(x.allNeed(), 0);
        due(x.image(), 0);
        due(x.law(0), 0);
        due(x.err(0), 0);
    }

    private static void letter() {
        promise = "2 letter";
        ToWhoNeeds x = new ToWhoNeeds();
        due(x.letter(-1), -4);
        due(x.letter(Integer.MIN_VALUE), -4);
        due(x.letter(256), -6);
        due(x.letter(Integer.MAX_VALUE), -6);
        due(x.count(6), 0);
        due(x.letter(0), 1);
        due(x.letter(255), 2);
        for (int i = 3; i <= 64; i++) {
            due(x.letter('p'), i);
        }
        due(x.letter('p'), -6);
        due(x.letter(-1), -4);
        due(x.letter(256), -6);
        due(x.count(6), 64);
        due(x.count(14), 3);
        due(x.count(16), 4);
    }

    private static void parish() {
        promise = "3 parish";
        ToWhoNeeds x = new ToWhoNeeds();
        due(tell(x, "p30,0,07,00+9;"), 1);
        due(x.count(6), 0);
        due(x.need(0, 0), 30);
        due(x.need(0, 2), 7);
        due(tell(x, "wm0;l1234;wh0;"), 3);
        due(x.count(0), 1);
        due(x.count(1), 2);
        due(x.writer(0, 2), 4321);
        due(x.writer(1, 2), 0);
        // The latest WRITER is of an earlier text; told again the LETTER takes the place.
        due(tell(x, "l5000;l0005;"), 2);
        due(x.writer(1, 2), 5000);
        due(x.writer(0, 2), 4321);
        // A FAULT takes all of its text with it, and the letters are gone.
        due(tell(x, "p1,1,1,1+1;l1111;wp7;"), -2017);
        due(x.count(0), 1);
        due(x.writer(1, 2), 5000);
        due(x.count(6), 0);
        // A PERSON may be told in the same text ahead of his WRITER, not behind him.
        due(tell(x, "wp1;p1,1,1,1+1;"), -2000);
        due(tell(x, "p1,1,1,1+1;wp1;"), 2);
        due(x.writer(2, 1), 1);
        for (int what = 11; what <= 16; what++) {
            due(x.count(what), 0);
        }
    }

    private static void parishFaults() {
        promise = "3 parish, FAULTS";
        due(told(""), -1000);
        due(told(";"), -1000);
        due(told("P"), -1000);
        due(told("p"), -1001);
        due(told("p1"), -1002);
        due(told("p,"), -1001);
        due(told("p12"), -1003);
        due(told("p123"), -1003);
        due(told("p1,2,3,4"), -1008);
        due(told("p1,2,3,4,"), -1008);
        due(told("p1,2,3+"), -1006);
        due(told("p1,2,3,4+"), -1009);
        due(told("p1,2,3,4+5"), -1010);
        due(told("p1,2,3,4+55;"), -1010);
        due(told("p1,2,3,4+5;;"), -1011);
        due(told("p1,2,3,4+5;p"), -1012);
        due(told("w"), -1001);
        due(told("wx"), -1001);
        due(told("wl"), -1001);
        due(told("wp"), -1002);
        due(told("wp;"), -1002);
        due(told("wp00;"), -1003);
        due(told("l123;"), -1004);
        due(told("l12345;"), -1005);
        due(told("l1,2"), -1002);
        // The first kind anywhere comes ahead of the second.
        due(told("p31,0,0,0+0;x"), -1012);
        due(told("p31,0,0,0+0;"), -2000);
        due(told("p0,0,0,99+0;"), -2000);
        due(told("p30,30,30,30+9;p0,0,31,0+0;"), -2015);
        due(told("wa0;"), -2000);
        due(told("l0000;"), -2000);
        due(told("p0,0,0,0+0;l0000;"), -2011);
        due(told("p0,0,0,0+0;wa0;l0006;"), -2015);
        due(told("p0,0,0,0+0;wa0;l9000;"), -2015);
        due(told("p0,0,0,0+0;wa1;wa0;l7777;"), -2011);
        due(told("p0,0,0,0+0;wa9;"), -2011);
    }

    private static void parishLimits() {
        promise = "3 parish, room";
        ToWhoNeeds x = with("p1,0,0,0+0;p1,0,0,0+0;p1,0,0,0+0;p1,0,0,0+0;p1,0,0,0+0;");
        due(tell(x, "p1,0,0,0+0;p1,0,0,0+0;"), -2011);
        due(x.count(0), 5);
        due(tell(x, "p1,0,0,0+0;"), 1);
        due(tell(x, "wp5;p1,0,0,0+0;"), -2004);
        due(tell(x, "wp0;wa1;wm2;wt3;wh4;"), -2016);
        due(x.count(1), 0);
        due(tell(x, "wp0;wa1;wm2;wt3;l1000;"), 5);
        due(tell(x, "wh0;"), -2000);
        due(x.count(0), 6);
        due(x.count(1), 4);
        due(x.writer(3, 2), 1);
        // 64 letters are read to their end.
        ToWhoNeeds y = with("p1,0,0,0+0;");
        say(y, "wp0;l0000;l0000;l0000;l0000;l0000;l0000;l0000;l0000;l0000;l0000;");
        due(y.count(6), 64);
        due(y.parish(), 11);
    }

    private static void need() {
        promise = "4 need";
        ToWhoNeeds x = with("p1,2,3,4+0;p10,20,30,0+0;");
        due(x.need(0, 0), 1);
        due(x.need(0, 1), 2);
        due(x.need(0, 2), 3);
        due(x.need(0, 3), 4);
        due(x.need(1, 1), 20);
        due(x.need(2, 0), -1);
        due(x.need(-1, 0), -1);
        due(x.need(0, 4), -1);
        due(x.need(0, -1), -1);
        due(x.need(Integer.MAX_VALUE, Integer.MIN_VALUE), -1);
        due(x.count(11), 5);
    }

    private static void writer() {
        promise = "5 writer";
        ToWhoNeeds x = with("p1,2,3,4+0;p1,1,1,1+0;wp1;wa0;wm1;wt0;");
        ToWhoNeeds y = with("p1,2,3,4+0;wh0;l5432;");
        for (int w = 0; w < 4; w++) {
            due(x.writer(w, 0), w);
            due(x.writer(w, 1), w % 2 == 0 ? 1 : 0);
            due(x.writer(w, 2), 0);
        }
        due(y.writer(0, 0), 4);
        due(y.writer(0, 2), 2345);
        due(x.writer(4, 0), -1);
        due(x.writer(-1, 9), -1);
        due(x.writer(0, 3), -2);
        due(x.writer(0, -1), -2);
        due(x.count(11), 2);
        due(x.count(12), 2);
    }

    private static void law() {
        promise = "6 law";
        ToWhoNeeds x = new ToWhoNeeds();
        due(x.law(4), 0);
        due(x.law(5), -2);
        due(x.law(-1), -2);
        due(x.law(2), 4);
        due(x.law(0), 2);
        due(x.count(12), 2);
    }

    private static void err() {
        promise = "7 err";
        ToWhoNeeds x = new ToWhoNeeds();
        due(x.err(50), 0);
        due(x.err(51), -6);
        due(x.err(-1), -4);
        due(x.err(7), 50);
        due(x.err(0), 7);
    }

    private static void score() {
        promise = "8 score";
        ToWhoNeeds x = with("p1,2,0,4+0;p30,30,30,30+0;");
        due(x.score(0, 1), 1);
        due(x.score(0, 10), 2);
        due(x.score(0, 5555), 35);
        due(x.score(0, 2130), 4 * 2 + 2 * 3);
        due(x.score(1, 5555), 600);
        due(x.score(0, 0), 0);
        x.law(3);
        due(x.score(0, 5555), 35);
        x.law(1);
        due(x.score(0, 5555), 7);
        due(x.score(0, 2130), 2 + 0 + 2);
        due(x.score(1, 2130), 6);
        x.law(4);
        due(x.score(0, 5555), 7);
        x.law(2);
        due(x.score(0, 5555), 4);
        due(x.score(0, 11), 2);
        due(x.score(0, 100), 0);
        due(x.score(0, 0), 0);
        due(x.score(2, 0), -1);
        due(x.score(-1, 0), -1);
        due(x.score(0, -1), -1);
        due(x.score(0, 6), -1);
        due(x.score(0, 60), -1);
        due(x.score(0, 600), -1);
        due(x.score(0, 6000), -1);
        due(x.score(0, 10000), -1);
        due(x.score(0, Integer.MIN_VALUE), -1);
        due(x.score(0, Integer.MAX_VALUE), -1);
    }

    private static void goes() {
        promise = "9 goes";
        ToWhoNeeds x = with("p5,0,0,0+0;p5,9,0,0+0;p0,9,0,1+0;");
        due(x.goes(1), 0);
        due(x.goes(10), 1);
        due(x.goes(11), 1);
        due(x.goes(1000), 2);
        due(x.goes(100), -9);
        due(x.goes(0), -9);
        due(x.goes(6), -1);
        due(x.goes(-10), -1);
        x.law(1);
        due(x.goes(11), 1);
        due(x.goes(1010), 2);
        x.law(2);
        due(x.goes(11), 1);
        due(x.goes(1), 0);
        x.law(3);
        // Second by SCORE, then numbers; the first where no second has one.
        due(x.goes(1), 1);
        due(x.goes(10), 2);
        due(x.goes(1000), 2);
        due(x.goes(100), -9);
        due(x.goes(11), 2);
        x.law(4);
        due(x.goes(11), 1);
        due(with("p1,0,0,0+0;wp0;").goes(10), -9);
        ToWhoNeeds alone = with("p1,0,0,0+0;");
        alone.law(3);
        due(alone.goes(1), 0);
        due(alone.goes(10), -9);
    }

    private static void post() {
        promise = "10 post";
        ToWhoNeeds x = with("p5,1,0,0+0;p4,0,0,0+0;p0,0,3,0+0;");
        due(x.post(12), 0);
        due(x.need(0, 0), 3);
        due(x.need(0, 1), 0);
        due(x.post(5), 1);
        due(x.need(1, 0), 0);
        due(x.post(1000), -9);
        due(x.post(6), -1);
        due(x.count(7), 3);
        due(x.allNeed(), 6);
        x.law(3);
        due(x.post(102), 2);
        due(x.need(2, 2), 2);
        due(x.need(0, 0), 3);
        x.law(4);
        // SCORES 2 and 2: the least gets it, then it goes on to all with a SCORE.
        due(x.post(202), 0);
        due(x.need(0, 0), 1);
        due(x.need(1, 0), 0);
        due(x.need(2, 2), 0);
        due(x.post(5555), 0);
        due(x.post(5555), -9);
        due(x.allNeed(), 0);
        due(x.count(7), 7);
    }

    private static void day() {
        promise = "11 day, 12 allNeed";
        ToWhoNeeds x = with("p0,1,29,30+9;p1,1,1,1+0;p0,0,0,0+1;");
        due(x.allNeed(), 64);
        due(x.day(), 9 + 10 + 30 + 30 + 4 + 4);
        due(x.need(0, 2), 30);
        due(x.need(0, 0), 9);
        due(x.need(2, 3), 1);
        due(x.count(4), 1);
        for (int i = 0; i < 30; i++) {
            x.day();
        }
        due(x.allNeed(), 120 + 4 + 120);
        due(x.day(), 244);
        due(x.count(4), 32);
        due(new ToWhoNeeds().day(), 0);
    }

    private static void can() {
        promise = "13 can";
        // 0 is before 1 wherever only GOOD 0 or 1 counts; GOOD 3 makes 1 the first.
        ToWhoNeeds x = with("p5,5,0,0+0;p5,5,0,2+0;p4,4,3,0+0;p5,4,3,0+0;p1,1,1,1+0;");
        due(x.can(0), 1);
        due(x.can(1), 1000);
        due(x.can(2), 100);
        // 3: with 101 he has 8, 2 has 7, the others 5.
        due(x.can(3), 101);
        due(x.can(4), -9);
        due(x.can(5), -1);
        due(x.can(-1), -1);
        // Of two cheapest the first by numbers, of which GOOD 3's digit is the highest.
        due(with("p0,0,1,1+0;").can(0), 100);
        due(with("p0,0,0,0+0;").can(0), -9);
        // Two of one GOOD are wanted: 2 against 1 by MET.
        ToWhoNeeds y = with("p1,0,0,0+0;p2,0,0,0+0;");
        y.law(1);
        due(y.can(1), 2);
        due(y.can(0), 1);
    }

    private static void who() {
        promise = "14 who, 15 never";
        ToWhoNeeds x = with("p5,5,0,0+0;p5,5,0,2+0;p4,4,3,0+0;p5,4,3,0+0;p1,1,1,1+0;");
        due(x.who(), 15);
        due(x.never(4), 15);
        due(x.never(0), 0);
        due(x.never(5), -1);
        due(x.never(-1), -1);
        x.law(3);
        due(x.who() & 1, 1);
        due(new ToWhoNeeds().who(), 0);
        ToWhoNeeds none = with("p0,0,0,0+0;");
        due(none.who(), 0);
        due(none.never(0), 0);
    }

    private static void before() {
        promise = "16 before";
        ToWhoNeeds x = with("p3,0,0,0+0;p2,0,0,0+0;p8,0,0,0+0;");
        due(x.before(2, 0), 0);
        due(x.before(2, 1), 0);
        // 8 less 4 is above 3 still.
        due(x.before(0, 0), -9);
        due(x.before(0, 1), -9);
        x.post(1);
        // 7 less 4 is 3, and 0 is the least of equals.
        due(x.before(0, 0), 2);
        due(x.before(0, 1), 4);
        x.post(3);
        // 3, 2, 4: one LETTER with 1 makes it 3, 2, 3, and 0 is the least of equals.
        due(x.before(0, 0), 1);
        due(x.before(0, 1), 1);
        // 1 wants the third at 2 and 0 at 1.
        due(x.before(1, 0), 2);
        due(x.before(1, 1), 4);
        x.post(2);
        // 3, 2, 2: a LETTER with 2 lets 0 have 1; 1 has 2 as the third has, and is the lesser.
        due(x.before(1, 0), 1);
        due(x.before(1, 1), 2);
        // The third wants 1 at 1 too: 2 and 1.
        due(x.before(2, 0), 2);
        due(x.before(2, 1), 3);
        due(x.before(3, 0), -1);
        due(x.before(-1, 2), -1);
        due(x.before(0, 2), -2);
        due(x.before(0, -1), -2);
        due(x.count(11), 2);
        due(x.count(12), 2);
        due(x.need(0, 0), 3);
    }

    private static void order() {
        promise = "17 order, 18 forget, 19 met";
        ToWhoNeeds x = with("p5,0,0,0+0;p4,4,0,0+0;");
        due(x.order(6), -1);
        due(x.order(-1), -1);
        due(x.order(5), 1);
        due(x.order(13), 2);
        due(x.order(3), 3);
        due(x.met(0, 12345), 0);
        due(x.met(0, -1), 0);
        due(x.met(1, 0), 5);
        // 13 to 1 (16 against 15): 3 and 1 of 4 and 4.
        due(x.met(1, 1), 4);
        due(x.met(1, 21), 4);
        // First 1, then 2 to 0, then 0 to 0: 4, 3, 2.
        due(x.met(3, 21), 9);
        due(x.met(3, 021), -1);
        due(x.met(3, 1021), 9);
        due(x.met(4, 210), -1);
        due(x.met(2, 30), -1);
        due(x.met(2, 0), -1);
        due(x.met(2, 11), -1);
        // Below 0 a number's digits name none, but for 0.
        due(x.met(1, -1), -1);
        due(x.met(1, -1000), 5);
        due(x.met(1, -10), 5);
        due(x.met(2, -10), -1);
        due(x.met(2, -100), -1);
        due(x.met(1, Integer.MIN_VALUE), -1);
        due(x.met(0, Integer.MIN_VALUE), 0);
        due(x.met(-1, 0), -4);
        due(x.met(6, 0), -6);
        due(x.order(0), 4);
        due(x.order(0), 5);
        due(x.order(0), -6);
        due(x.order(6), -1);
        due(x.met(5, 43210), x.met(3, 210));
        due(x.forget(), 5);
        due(x.forget(), 0);
        due(x.met(1, 0), -1);
        due(x.order(5555), 1);
        due(x.allNeed(), 13);
    }

    private static void best() {
        promise = "20 best";
        ToWhoNeeds x = with("p2,0,0,0+0;p1,5,0,0+0;");
        due(x.best(-1), 0);
        due(x.best(0), -9);
        due(x.best(-2), -4);
        // SUM: 5 to 0 first meets 2, and 55 then meets 1 and 5; the other way 1, 5 and 2 as well.
        x.order(55);
        x.order(5);
        due(x.best(-1), 8);
        due(x.best(0), 0);
        due(x.best(1), 1);
        due(x.best(2), -9);
        ToWhoNeeds y = with("p4,0,0,0+0;p4,0,0,1+0;");
        y.order(1);
        y.order(1004);
        y.order(4);
        // 1 to 0, 1004 to 1 (17 against 12) meets 5, 4 to 0 meets 3: all.
        due(y.met(3, 210), 9);
        due(y.best(-1), 9);
        due(y.best(0), 0);
        due(y.best(1), 1);
        due(y.best(2), 2);
        ToWhoNeeds z = with("p3,0,0,0+0;p2,2,0,0+0;");
        z.order(3);
        z.order(11);
        z.order(22);
        due(z.met(3, 210), 3 + 2 + 2);
        due(z.best(-1), 7);
        due(z.best(0), 0);
        due(z.best(1), 1);
        due(z.best(5), -9);
        ToWhoNeeds w = with("p3,0,0,0+0;p2,0,0,0+0;");
        w.order(2);
        w.order(3);
        // 2 first: 0 has 1 left, then 3 to 1 meets 2: 4. 3 first: then 2 to 1: 5.
        due(w.met(2, 10), 4);
        due(w.met(2, 1), 5);
        due(w.best(-1), 5);
        due(w.best(0), 1);
        due(w.best(1), 0);
        due(w.best(Integer.MIN_VALUE), -4);
        due(w.best(Integer.MAX_VALUE), -9);
    }

    /** BEST of five LETTERS against all 120 orders, each by met. */
    private static void bestOfAll() {
        promise = "20 best of 120";
        for (int k = 0; k < 40; k++) {
            ToWhoNeeds x = with("p3,2,0,4+0;p2,4,1,0+0;p0,4,2,3+0;");
            x.law(k % 5);
            for (int i = 0; i < 5; i++) {
                x.order((k * 7 + i * 5) % 4 + 10 * ((k * 3 + i * i) % 4) + 1000 * ((k + i * 3) % 3));
            }
            int most = -1;
            int first = 0;
            for (int line = 1234; line <= 43210; line++) {
                // The line reads from its first LETTER, met takes the lowest digit first.
                int turned = 0;
                for (int rest = line, i = 0; i < 5; i++, rest /= 10) {
                    turned = turned * 10 + rest % 10;
                }
                if (isLine(line) && x.met(5, turned) > most) {
                    most = x.met(5, turned);
                    first = line;
                }
            }
            due(x.best(-1), most);
            for (int i = 4, rest = first; i >= 0; i--, rest /= 10) {
                due(x.best(i), rest % 10);
            }
        }
    }

    private static boolean isLine(int line) {
        int digits = 0;
        for (int rest = line, i = 0; i < 5; i++, rest /= 10) {
            digits |= 1 << rest % 10;
        }
        return digits == 31;
    }

    private static void greedy() {
        promise = "21 greedy";
        ToWhoNeeds w = with("p3,0,0,0+0;p2,0,0,0+0;");
        due(w.greedy(), 0);
        w.order(2);
        w.order(3);
        due(w.greedy(), 5);
        // 30 to 0 meets 3; then 12 (7 against 0) 3 of 1; then 2 none.
        ToWhoNeeds x = with("p0,3,0,0+0;p2,3,0,0+0;");
        x.order(30);
        x.order(2);
        x.order(12);
        due(x.greedy(), 3 + 3 + 0);
        due(x.best(-1), 6);
        ToWhoNeeds y = with("p4,0,0,0+0;p3,0,0,0+0;");
        y.order(1);
        y.order(4);
        y.order(2);
        // 4 to 0; then 2 to 1, then 1 to 1: 7. In their own order: 1 to 0, 4 to 0 (3), 2 to 1: 6.
        due(y.met(3, 210), 6);
        due(y.greedy(), 7);
        due(y.allNeed(), 7);
        // Each meets 1 at first, so greed takes 11, which goes to 0, and 2 then goes to none.
        ToWhoNeeds z = with("p1,0,0,0+0;p0,1,0,0+0;");
        z.order(11);
        z.order(2);
        due(z.greedy(), 1);
        due(z.best(-1), 2);
    }

    private static void forty() {
        promise = "22 forty";
        ToWhoNeeds x = with("p3,0,0,0+0;p2,0,0,0+0;p1,0,0,0+0;p0,0,0,0+0;");
        due(x.forty(1, 0), 0);
        due(x.forty(1, 1), 1);
        // 3 2 1, 2 2 1, 1 2 1: the third goes to 1.
        due(x.forty(1, 2), 3);
        // 1 1 1, 0 1 1, 0 0 1: the sixth goes to 2.
        due(x.forty(1, 3), 6);
        due(x.forty(1, 4), -9);
        due(x.forty(1, 5), -6);
        due(x.forty(1, -1), -4);
        due(x.forty(6, -1), -1);
        due(x.forty(6, 9), -1);
        due(x.forty(0, 1), -9);
        x.law(4);
        due(x.forty(1, 3), 1);
        due(x.forty(1, 4), -9);
        ToWhoNeeds y = with("p20,20,0,0+0;p1,0,0,0+0;p0,1,0,0+0;");
        due(y.forty(1, 2), 21);
        due(y.allNeed(), 42);
        ToWhoNeeds z = with("p21,20,0,0+0;p1,0,0,0+0;p0,1,0,0+0;");
        due(z.forty(1, 2), 22);
        ToWhoNeeds late = with("p30,0,0,0+0;p20,0,0,0+0;p10,0,0,0+0;");
        // 30 to 20 is 10, then both to 10: 20 more (1 at the 12th), then 2 when 0 and 1 are at 9.
        due(late.forty(1, 2), 12);
        due(late.forty(1, 3), 33);
        ToWhoNeeds at40 = with("p29,0,0,0+0;p28,0,0,0+0;p9,0,0,0+0;");
        // To 9 and 9 are 20 and 19, then each once more: the 42nd.
        due(at40.forty(1, 3), -9);
        at40.post(1);
        at40.post(1);
        due(at40.forty(1, 3), 40);
    }

    private static void think() {
        promise = "23 going, 24 think";
        ToWhoNeeds x = with("p5,0,0,0+0;p9,9,0,0+0;");
        due(x.think(0, 0, 0), 0);
        due(x.think(0, 0, 1), 30);
        due(x.think(0, 0, 2), 31);
        due(x.going(1, 1), 1);
        // 0 has to have less than 9; of equals he would get it.
        due(x.think(0, 0, 0), 0);
        due(x.think(0, 0, 1), 8);
        due(x.think(0, 0, 2), 9);
        due(x.think(1, 0, 0), 6);
        due(x.think(1, 0, 1), 30);
        due(x.think(1, 0, 2), 25);
        due(x.going(2020, 1), 2);
        due(x.going(1000, -1), 3);
        due(x.think(0, 3, 0), 0);
        due(x.think(0, 3, 1), 0);
        due(x.think(0, 3, 2), 1);
        due(x.going(1, 0), 4);
        due(x.think(0, 0, 0), -9);
        due(x.think(0, 0, 1), -9);
        due(x.think(0, 0, 2), 0);
        due(x.going(6, 0), -1);
        due(x.going(1, 2), -1);
        due(x.going(1, -2), -1);
        due(x.going(0, -1), 5);
        due(x.going(0, -1), 6);
        due(x.going(0, -1), -6);
        due(x.going(0, -9), -1);
        due(x.think(2, 0, 0), -1);
        due(x.think(-1, 0, 0), -1);
        due(x.think(0, 4, 0), -1);
        due(x.think(0, -1, 3), -1);
        due(x.think(0, 0, 3), -2);
        due(x.think(0, 0, -1), -2);
        due(x.allNeed(), 23);
        // Only the greatest fits: by SUM 30 are above 29.
        ToWhoNeeds full = with("p29,0,0,0+0;p0,0,0,0+0;");
        full.going(1, 1);
        due(full.think(1, 0, 0), 30);
        due(full.think(1, 0, 1), 30);
        due(full.think(1, 0, 2), 1);
        // By SECOND a letter went to 0 because he has less than 9, or 9 at least lets 1 have it.
        ToWhoNeeds y = with("p5,0,0,0+0;p9,9,0,0+0;");
        y.law(3);
        y.going(1, 0);
        due(y.think(0, 0, 0), 1);
        due(y.think(0, 0, 1), 8);
        y.law(0);
        due(y.think(0, 0, 0), 9);
    }

    private static void tell() {
        promise = "25 tell";
        ToWhoNeeds x = with("p5,0,0,0+0;p9,9,0,0+0;");
        // 1: 0 or 1; never none. 10 by 0's GOOD 1: 0 or 1.
        due(x.tell(0, 0), 1);
        due(x.tell(0, 1), 10);
        due(x.tell(0, 2), 100);
        x.going(1, 1);
        // 0 .. 8: with 1 always 1; 12 is to 1 as well; nothing tells more than one: the first.
        due(x.tell(0, 0), 0);
        x.going(100, 0);
        due(x.tell(0, 0), -3);
        due(x.tell(0, 2), 101);
        due(x.tell(2, 0), -1);
        due(x.tell(0, 4), -1);
        due(x.tell(-1, -1), -1);
        due(x.count(13), 1);
        // None is one too: 100 goes to none, or to 0.
        due(with("p0,0,0,0+0;").tell(0, 2), 100);
    }

    private static void laws() {
        promise = "26 laws";
        ToWhoNeeds x = with("p9,0,0,0+0;p3,0,0,0+0;");
        // To 1 by SECOND alone; by MET both have 2, and 0 is the least.
        due(x.laws(1), 8);
        due(x.laws(0), 1 + 2 + 4 + 16);
        due(x.laws(2), -1);
        due(x.laws(-1), -1);
        due(with("p9,0,0,0+0;").laws(0), 31);
        due(with("p0,0,0,0+0;").laws(0), 0);
        // 1 by SUM with 21 (9, 10, 10), by MET with 11 (1, 2, 1); by MOST 0 or 2 have more.
        ToWhoNeeds y = with("p9,0,0,0+0;p8,1,0,0+0;p0,5,0,0+0;");
        due(y.laws(1), 1 + 2 + 8 + 16);
        due(y.law(0), 0);
    }

    private static void eye() {
        promise = "27 eye";
        ToWhoNeeds x = with("p9,0,0,0+0;p3,1,0,0+0;p1,0,0,0+0;");
        due(x.eye(0, 1, 0), 1);
        due(x.eye(0, 1, 1), 1);
        due(x.eye(1, 1, 0), 0);
        due(x.eye(1, 1, 1), 1);
        x.err(15);
        due(x.eye(0, 1, 0), 17);
        due(x.eye(0, 1, 1), 20);
        due(x.eye(1, 1, 0), 3);
        due(x.eye(1, 1, 1), 20);
        due(x.eye(2, 1, 0), 0);
        due(x.eye(2, 1, 1), 1);
        // Nobody is second: it is as it is.
        due(x.eye(1, 10, 0), 1);
        due(x.eye(1, 10, 1), 1);
        due(x.eye(0, 10, 0), 0);
        due(x.eye(0, 0, 0), 0);
        due(x.eye(0, 0, 1), 1);
        x.law(3);
        due(x.eye(1, 1, 0), 17);
        due(x.eye(0, 1, 0), 3);
        due(x.eye(1, 10, 0), 1);
        x.err(50);
        due(x.eye(0, 1, 0), 1);
        due(x.eye(0, 1, 1), 2);
        due(x.eye(1, 1, 1), 2);
        x.err(7);
        due(x.eye(0, 1, 0), 7);
        due(x.eye(0, 1, 1), 100);
        x.err(2);
        due(x.eye(0, 1, 0), 1);
        due(x.eye(0, 1, 1), 50);
        x.err(46);
        due(x.eye(1, 1, 0), 27);
        due(x.eye(1, 1, 1), 50);
        due(x.eye(3, 1, 0), -1);
        due(x.eye(0, 6, 0), -1);
        due(x.eye(-1, 0, 2), -1);
        due(x.eye(0, 1, 2), -2);
        due(x.eye(0, 1, -1), -2);
    }

    private static void surest() {
        promise = "28 surest";
        ToWhoNeeds x = with("p9,0,0,0+0;p3,1,0,0+0;p1,0,0,0+0;");
        due(x.surest(0), 1);
        due(x.surest(1), 10);
        due(x.surest(2), -9);
        x.err(20);
        due(x.surest(1), 10);
        due(x.surest(2), -9);
        due(x.surest(3), -1);
        due(x.surest(-1), -1);
        ToWhoNeeds y = with("p9,0,0,1+0;p3,0,0,0+0;");
        due(y.surest(1), -9);
        y.err(1);
        due(y.surest(1), 1);
        // 1000 is sure, 1 is not: the sure one comes ahead of the first.
        due(y.surest(0), 1000);
        y.law(3);
        due(y.surest(1), 1);
        due(y.surest(0), 1000);
    }

    private static void morning() {
        promise = "29 morning";
        ToWhoNeeds x = with("p3,0,0,0+0;p2,0,0,0+0;wp0;l2000;wp0;l2000;wp1;l1000;wa1;");
        // 0 has 1 left; then 1 gets what was for 0, and has none; 0 gets what was for 1; none is left.
        due(x.morning(), 1);
        due(x.need(0, 0), 0);
        due(x.need(1, 0), 0);
        due(x.count(7), 4);
        due(x.count(4), 0);
        due(x.morning(), 0);
        due(x.count(7), 8);
        due(new ToWhoNeeds().morning(), 0);
        ToWhoNeeds y = with("p3,3,0,0+0;p2,2,0,0+0;wp0;l1100;wp1;l1100;");
        y.law(4);
        // Both HAVE both, and 0 is first each time.
        due(y.morning(), 1);
        due(y.need(1, 1), 0);
        due(y.need(0, 0), 1);
    }

    private static void writes() {
        promise = "30 writes";
        ToWhoNeeds x = with("p5,0,0,0+0;p2,3,0,1+0;wp1;l5555;wa1;wt1;l0004;wm0;");
        due(x.writes(0), 5555);
        due(x.writes(1), 10);
        due(x.writes(2), 4000);
        // 2 and 2 and 1 of 1 are met by 1022 (SUM 11 against 10).
        due(x.writes(3), 1022);
        due(x.writes(4), -1);
        due(x.writes(-1), -1);
        x.day();
        due(x.writes(2), 10);
        x.day();
        due(x.writes(2), 4000);
        due(x.count(7), 0);
        ToWhoNeeds y = with("p0,0,0,0+0;wa0;l0300;wm0;wt0;l0200;");
        due(y.writes(0), 30);
        due(y.writes(1), 0);
        y.day();
        due(y.writes(2), 20);
    }

    private static void ahead() {
        promise = "30 writes, AHEAD";
        // 1 is not reached now; behind 1 (to 0) he is.
        ToWhoNeeds x = with("p2,0,0,0+0;p2,0,0,0+0;wh1;l0001;");
        due(x.writes(0), 1);
        // 2 and 4: he is reached by 1 already, and nothing is cheaper.
        ToWhoNeeds y = with("p2,0,0,0+0;p4,0,0,0+0;wh1;l0001;");
        due(y.writes(0), 1);
        // By no LETTER of TWO is 9 made less than 1: as AIM, who has none and writes the told one.
        ToWhoNeeds z = with("p9,0,0,0+0;p1,0,0,0+0;wh1;l0001;");
        due(z.writes(0), 1000);
        // 1 wants two goods (11: 6 against 4 and 4). Behind 1 he has 3 as 0 has, who is less; behind
        // 10 he has 3 as the third has, and is less himself.
        ToWhoNeeds w = with("p4,0,0,0+0;p3,3,0,0+0;p0,4,0,0+0;wh1;");
        due(w.can(1), 11);
        due(w.writes(0), 10);
    }

    private static void both() {
        promise = "31 both";
        ToWhoNeeds x = with("p5,0,0,0+0;p0,5,0,0+0;wp0;l1000;wp1;l0100;wp0;");
        due(x.both(0, 1), 1);
        due(x.both(1, 0), 1);
        // 0000 becomes 1 in the first round; the second changes nothing.
        due(x.both(2, 1), 2);
        due(x.both(1, 2), 2);
        due(x.both(0, 0), -1);
        due(x.both(0, 3), -1);
        due(x.both(3, 0), -1);
        due(x.both(-1, 0), -1);
        due(x.writer(2, 2), 0);
        // Behind 1's letter 0 is not reached, and he writes the told 0000; behind that 1 is not
        // reached and writes the told 1 again.
        ToWhoNeeds y = with("p1,0,0,0+0;p1,0,0,0+0;wp0;wp1;l1000;");
        due(y.both(0, 1), 1);
        // 1 writes 0000 at first: 0 writes 1, behind which 1 writes 1; behind that 0 writes 0000,
        // behind which 1 is not reached and writes 0000: so on without end.
        ToWhoNeeds z = with("p1,0,0,0+0;p1,0,0,0+0;wp0;wp1;");
        due(z.both(0, 1), -9);
        due(z.count(7), 0);
    }

    private static void year() {
        promise = "32 year";
        ToWhoNeeds x = with("p30,30,30,30+0;");
        // Seed 0: z = 1013904223, by 256 3960563, modulo 3 2; the four draws below are by hand.
        int z = 0;
        int met = 0;
        for (int draw = 0; draw < 8; draw++) {
            z = z * 1664525 + 1013904223;
            met += (z & 0x7fffffff) / 256 % 3;
            if (draw == 0) {
                due((z & 0x7fffffff) / 256 % 3, 3960563 % 3);
            }
            if (draw == 3) {
                due(x.year(1, 0), 120 - met);
            }
        }
        due(x.year(2, 0), 120 - met);
        due(x.year(0, 0), -4);
        due(x.year(-1, 0), -4);
        due(x.year(31, 0), -6);
        due(x.allNeed(), 120);
        due(x.count(4), 0);
        due(x.count(7), 0);
        // A day behind each letter: all is full again but nothing is above 30.
        due(with("p30,30,30,30+9;").year(30, 12345), 120);
        due(with("p0,0,0,0+1;").year(1, 7), 4);
        due(new ToWhoNeeds().year(30, -1), 0);
    }

    private static void judge() {
        promise = "33 row, 34 judge";
        ToWhoNeeds x = with("p3,0,0,0+0;p2,0,0,0+0;");
        due(x.judge(), -9);
        x.order(2);
        x.order(1);
        x.order(10);
        due(x.judge(), 0);
        rows(x, 0, 1, 9);
        due(x.count(5), 3);
        due(x.judge(), -9);
        due(x.count(5), 0);
        rows(x, 0, 0, 9);
        due(x.judge(), 1);
        rows(x, 0, 1);
        due(x.judge(), 2);
        rows(x, 0, 1, 9, 9);
        due(x.judge(), 3);
        rows(x, 0, 1, 8, 9, 9);
        due(x.judge(), 2);
        rows(x, 9);
        due(x.judge(), 0);
        due(x.need(0, 0), 3);
        due(x.row(-1), -4);
        due(x.row(10), -6);
        rows(x, 0, 1, 2, 3, 4, 5, 6, 7);
        due(x.row(8), -6);
        due(x.row(-1), -4);
        due(x.count(5), 8);
        due(x.judge(), 2);
    }

    private static void image() {
        promise = "35 image, 36 on";
        ToWhoNeeds x = with("p3,0,0,0+1;wp0;");
        due(x.on(), -3);
        x.law(3);
        x.err(5);
        x.order(1);
        x.going(1, 0);
        x.day();
        due(x.image(), 1);
        x.post(5);
        x.day();
        x.law(0);
        x.err(0);
        x.forget();
        x.going(1, 0);
        tell(x, "p9,9,9,9+9;wm1;l1111;");
        due(x.need(-1, 0), -1);
        due(x.on(), 1);
        due(x.count(0), 1);
        due(x.count(1), 1);
        due(x.count(2), 1);
        due(x.count(3), 1);
        due(x.count(4), 1);
        due(x.count(11), 1);
        due(x.count(13), 1);
        due(x.need(0, 0), 4);
        due(x.allNeed(), 7);
        due(x.writer(0, 2), 0);
        due(x.law(0), 3);
        due(x.err(0), 5);
        // What happened since is gone, and THE IMAGE stays for another time.
        due(x.day(), 11);
        due(x.on(), 1);
        due(x.allNeed(), 7);
        due(x.law(3), 3);
    }

    private static void imageAndPosted() {
        promise = "36 on, POSTED";
        ToWhoNeeds x = with("p9,0,0,0+0;wp0;l1000;wm0;");
        x.post(1);
        x.post(0);
        x.image();
        due(x.count(7), 2);
        due(x.morning(), 2);
        x.post(1);
        due(x.count(7), 5);
        x.on();
        due(x.count(7), 2);
        due(x.need(0, 0), 8);
        x.post(1);
        due(x.count(7), 3);
    }

    /** Letters that came and the ROW are not told yet: ON leaves them. */
    private static void imageAndNotTold() {
        promise = "36 on, letters that came, the ROW";
        ToWhoNeeds x = new ToWhoNeeds();
        say(x, "p1,2");
        rows(x, 9, 9);
        x.image();
        say(x, ",3,4+5;");
        x.order(0);
        due(x.row(9), 3);
        x.on();
        due(x.count(2), 0);
        due(x.count(5), 3);
        due(x.count(6), 11);
        due(x.judge(), 0);
        due(x.parish(), 1);
        due(x.need(0, 3), 4);
        // What is gone does not come back.
        x.on();
        due(x.count(0), 0);
        due(x.count(5), 0);
        due(x.count(6), 0);
        due(x.parish(), -1000);
    }

    private static void count() {
        promise = "37 count";
        ToWhoNeeds x = with("p3,0,0,0+1;p3,0,0,0+1;wp0;");
        x.order(1);
        x.order(1);
        x.order(1);
        x.going(1, 0);
        x.day();
        x.row(1);
        x.row(1);
        x.letter('a');
        x.post(1);
        x.morning();
        int[] counts = {2, 1, 3, 1, 1, 2, 1, 2};
        for (int what = 0; what < counts.length; what++) {
            due(x.count(what), counts[what]);
        }
        for (int what : new int[] {-1, 8, 9, 10, 17, 18, Integer.MIN_VALUE, Integer.MAX_VALUE}) {
            due(x.count(what), -9);
        }
        x.need(9, 9);
        x.law(9);
        x.law(9);
        x.on();
        x.err(-1);
        x.err(99);
        int[] refused = {1, 2, 1, 1, 0, 1};
        for (int number = 1; number <= 6; number++) {
            due(x.count(10 + number), refused[number - 1]);
        }
    }

    /** What is asked in mind leaves all as it is. */
    private static void inMind() {
        promise = "II, in mind";
        ToWhoNeeds x = with("p5,3,0,1+1;p4,4,0,1+0;p1,0,9,0+3;wa0;l1000;wh1;wm2;wt1;");
        for (int law = 0; law < 5; law++) {
            x.law(law);
            x.forget();
            x.order(1111);
            x.order(2);
            x.order(5000);
            x.goes(5);
            x.can(1);
            x.who();
            x.never(2);
            x.before(2, 1);
            x.met(2, 10);
            x.best(0);
            x.greedy();
            x.forty(11, 2);
            x.think(1, 1, 0);
            x.tell(1, 1);
            x.laws(0);
            x.eye(0, 1, 0);
            x.surest(1);
            x.writes(0);
            x.writes(1);
            x.writes(2);
            x.both(0, 1);
            x.year(9, 9);
            x.judge();
            due(x.allNeed(), 28);
            due(x.need(0, 0), 5);
            due(x.count(4), 0);
            due(x.count(7), 0);
            due(x.writer(1, 2), 0);
        }
        for (int what = 11; what <= 16; what++) {
            due(x.count(what), 0);
        }
    }
}
