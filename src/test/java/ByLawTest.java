/** What is asked by LAWS other than the first: by READ ON above all, where all HAVE what GOES to one. */
public final class ByLawTest extends ByHand {
    private static final int MET = 1;
    private static final int MOST = 2;
    private static final int SECOND = 3;
    private static final int READ_ON = 4;

    /** By READ ON 1 HAS what 0 HAS, and is never the first. */
    private static final String ALIKE = "p5,0,0,0+0;p5,0,0,0+0;p0,0,0,2+0;";

    private ByLawTest() { }

    public static void main(String[] args) {
        readOnGoesToTheFirst();
        readOnBeforehand();
        readOnThinks();
        readOnIsHad();
        readOnWriters();
        secondReached();
        secondWriters();
        mostReached();
        metMeets();
        lawIsTheOneNow();
        Check.end();
    }

    private static ToWhoNeeds by(int law, String text) {
        ToWhoNeeds x = with(text);
        x.law(law);
        return x;
    }

    private static void readOnGoesToTheFirst() {
        promise = "9, 13 .. 15, 26 .. 28: by READ ON a LETTER GOES to the first";
        ToWhoNeeds x = by(READ_ON, ALIKE);
        due(x.goes(1), 0);
        due(x.goes(1001), 0);
        due(x.goes(2001), 2);
        due(x.can(0), 1);
        due(x.can(1), -9);
        due(x.can(2), 1000);
        due(x.who(), 1 + 4);
        due(x.never(1), 1 + 4);
        due(x.never(0), 0);
        due(x.laws(1), 8);
        due(x.laws(0), 1 + 2 + 4 + 16);
        due(x.surest(1), -9);
        x.err(20);
        due(x.eye(0, 1, 0), 4);
        due(x.eye(0, 1, 1), 5);
        due(x.eye(1, 1, 0), 1);
        due(x.eye(1, 1, 1), 5);
        due(x.eye(2, 1, 0), 0);
        due(x.surest(1), 1);
        // He HAS 2222 by READ ON as each has, but the third gets it first from no eye.
        ToWhoNeeds third = by(READ_ON, "p5,5,5,5+0;p5,5,5,5+0;p5,5,5,5+0;");
        third.err(50);
        due(third.eye(2, 2222, 0), 0);
        due(third.eye(2, 2222, 1), 1);
        due(third.surest(2), -9);
    }

    private static void readOnBeforehand() {
        promise = "16: beforehand all HAVE it";
        // By MET 0 has 4 of his 5, then 1 has more; by READ ON both have 4, and 0 is the least.
        ToWhoNeeds x = by(MET, ALIKE);
        due(x.before(1, 0), 2);
        due(x.before(1, 1), 4);
        x.law(READ_ON);
        due(x.before(1, 0), -9);
        due(x.before(1, 1), -9);
        // 2 meets 2 of both, so 0 is the least; behind 1 (to both) it meets 1 of him and 2 of 1.
        ToWhoNeeds y = by(READ_ON, "p2,0,0,0+0;p3,0,0,0+0;");
        due(y.before(1, 0), 1);
        due(y.before(1, 1), 1);
        due(y.post(1), 0);
        due(y.can(1), 2);
    }

    private static void readOnThinks() {
        promise = "24, 25: by READ ON it went to the first";
        ToWhoNeeds x = by(READ_ON, ALIKE);
        // Whatever 1 lacks, each LETTER goes to 0 or to 2; where 0 lacks none, 1 goes to 1.
        due(x.tell(1, 0), 0);
        due(x.tell(0, 0), 1);
        due(x.going(1, 1), 1);
        due(x.think(0, 0, 0), 0);
        due(x.think(0, 0, 1), 0);
        due(x.think(0, 0, 2), 1);
        due(x.think(1, 0, 2), 0);
        due(x.tell(1, 0), -3);
    }

    private static void readOnIsHad() {
        promise = "10, 19 .. 22, 34: by READ ON all HAVE it";
        ToWhoNeeds x = by(READ_ON, ALIKE);
        due(x.forty(1, 2), 1);
        due(x.forty(1, 3), -9);
        due(x.forty(1001, 3), 1);
        x.order(1);
        x.order(2004);
        due(x.met(1, 0), 2);
        due(x.met(1, 1), 4 + 4 + 2);
        due(x.met(2, 10), 2 + 4 + 4 + 2);
        due(x.best(-1), 12);
        due(x.best(0), 0);
        due(x.greedy(), 12);
        // 4 of 5 and of 5 against 2 of 2: 2004 goes to 0 though 2 has it, too.
        rows(x, 0, 0);
        due(x.judge(), -9);
        rows(x, 0, 2);
        due(x.judge(), 1);
        due(x.post(2001), 2);
        due(x.need(0, 0), 4);
        due(x.need(1, 0), 4);
        due(x.need(2, 3), 0);
        due(x.count(7), 1);
        // A LETTER of a year is HAD by all: a second one alike has as much less.
        for (int z = 0; z < 5; z++) {
            int one = by(READ_ON, "p30,30,30,30+0;").year(5, z);
            due(by(READ_ON, "p30,30,30,30+0;p30,30,30,30+0;").year(5, z), 2 * one);
            due(by(MET, "p30,30,30,30+0;p30,30,30,30+0;").year(5, z), 120 + one);
        }
    }

    private static void readOnWriters() {
        promise = "29, 30: by READ ON";
        ToWhoNeeds x = with(ALIKE, "wa1;l1000;wm1;wh1;l0004;wp2;l2001;");
        x.law(READ_ON);
        // 1 is not reached, beforehand neither: AIM and AHEAD write what is told.
        due(x.writes(0), 1);
        due(x.writes(1), 2002);
        due(x.writes(2), 4000);
        due(x.writes(3), 1002);
        // To 0; to 0 (2 and 2 and 2); to none; to 0 of the rest: 1 HAS two of them but is never first.
        due(x.morning(), 0);
        due(x.need(0, 0), 0);
        due(x.need(1, 0), 0);
        due(x.need(2, 3), 0);
        due(x.count(7), 4);
    }

    private static void secondReached() {
        promise = "13 .. 16, 22, 28, 34: by SECOND";
        // 0 is the second of none; behind 2 and 2 to 1, who is it, 0 is alone.
        ToWhoNeeds x = by(SECOND, "p9,0,0,0+0;p4,0,0,0+0;p0,0,0,1+0;");
        due(x.can(0), -9);
        due(x.can(1), 1);
        due(x.can(2), 1000);
        due(x.who(), 2 + 4);
        due(x.never(0), 2 + 4);
        due(x.before(0, 0), 2);
        due(x.before(0, 1), 4);
        due(x.forty(1, 1), 1);
        due(x.forty(1, 2), 5);
        due(x.surest(0), -9);
        due(x.surest(2), 1000);
        x.err(40);
        due(x.surest(0), 1);
        due(x.eye(0, 1, 0), 2);
        due(x.eye(0, 1, 1), 5);
        x.order(5);
        x.order(5);
        due(x.met(2, 10), 4 + 5);
        rows(x, 1, 0);
        due(x.judge(), -9);
        rows(x, 0, 0);
        due(x.judge(), 0);
    }

    private static void secondWriters() {
        promise = "29 .. 31: by SECOND";
        ToWhoNeeds x = with("p9,0,0,0+0;p2,0,0,0+0;wh0;l0005;wa0;l0005;wm0;");
        x.law(SECOND);
        // Behind 2, which 1 gets, 0 is alone. Without a second 2 meets 2 of either.
        due(x.writes(0), 2);
        due(x.writes(1), 5000);
        due(x.writes(2), 2);
        // 2 to 1; then 1 and 2 to 0.
        due(x.morning(), 2);
        due(x.need(0, 0), 6);
        due(x.need(1, 0), 0);
        ToWhoNeeds y = with("p9,0,0,0+0;p2,0,0,0+0;wp0;l0005;wp1;l2000;");
        y.law(SECOND);
        // Behind 2 0 writes 1, behind which 1 (with 1 left) writes 1; behind that 0 is not reached and
        // writes the told 5000, behind which 1 writes 1 again: that stays.
        due(y.both(0, 1), 3);
    }

    private static void mostReached() {
        promise = "13 .. 16, 25, 26, 30: by MOST";
        // 11 goes to 0 (5 against 4 and 4), though by SUM 1 has 8.
        ToWhoNeeds x = by(MOST, "p5,0,0,0+0;p4,4,0,0+0;p0,4,4,0+0;");
        due(x.goes(11), 0);
        due(x.can(1), 10);
        due(x.can(2), 100);
        due(x.who(), 7);
        // How much of it there is makes no difference.
        due(x.score(1, 5), 4);
        due(x.score(1, 15), 4);
        due(x.score(1, 1000), 0);
        ToWhoNeeds y = with("p5,0,0,0+0;p4,4,0,0+0;p0,5,0,0+0;wh1;l0005;wm1;");
        due(y.can(1), 11);
        y.law(MOST);
        due(y.can(1), -9);
        due(y.never(1), 1 + 4);
        due(y.laws(1), 1 + 2 + 8 + 16);
        // Behind 1 0 has 4 as he has, and is less; behind 10 2 has 4 as he has, who is less.
        due(y.before(1, 0), 1);
        due(y.before(1, 1), 1);
        due(y.writes(0), 10);
        due(y.writes(1), 2);
        // 4 is unlike 5: to 0 with 5 at least, else to 1.
        due(y.tell(0, 0), 1);
        due(y.going(22, 2), 1);
        due(y.think(0, 0, 1), 4);
        due(y.think(0, 0, 2), 5);
    }

    private static void metMeets() {
        promise = "13, 16, 22, 30: by MET";
        ToWhoNeeds x = with("p1,1,0,0+0;p9,0,0,0+0;wh1;l0005;wa1;");
        x.law(MET);
        due(x.goes(5), 1);
        due(x.goes(11), 0);
        due(x.can(1), 2);
        // Behind 1 (to 0) 1 is cheaper than 2.
        due(x.writes(0), 1);
        due(x.writes(1), 2);
        due(x.before(1, 0), 0);
        due(x.forty(1, 2), 2);
        due(x.morning(), 1);
        due(x.need(0, 0), 0);
        due(x.need(1, 0), 8);
    }

    /** What is asked goes by the LAW as it is told now, whatever it was when something else was told. */
    private static void lawIsTheOneNow() {
        promise = "6: the LAW is told";
        ToWhoNeeds x = with("p9,0,0,0+0;p3,0,0,0+0;wa1;l0005;");
        x.law(SECOND);
        x.order(1);
        rows(x, 1);
        x.going(1, 1);
        x.image();
        due(x.can(1), 1);
        // With 1 or 2 he would be the second himself.
        due(x.think(0, 0, 2), 31 - 2);
        x.law(0);
        due(x.can(1), -9);
        due(x.think(0, 0, 2), 3);
        due(x.writes(0), 5000);
        due(x.judge(), 0);
        due(x.laws(1), 8);
        due(x.on(), 0);
        due(x.can(1), 1);
        due(x.writes(0), 1);
        // Told again behind THE IMAGE, gone with it; 0, too.
        due(x.law(0), 3);
        due(x.image(), 0);
        due(x.law(2), 0);
        due(x.err(9), 0);
        due(x.on(), 0);
        due(x.law(1), 0);
        due(x.err(1), 0);
    }
}
