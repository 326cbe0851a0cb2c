import java.util.ArrayList;
import java.util.List;
import java.util.function.ToIntFunction;

/** Calls behind many others, up to the 512th of an object: they answer as ahead of those others. */
public final class LastCallTest extends ByHand {
    private static final int CALLS = 512;
    private static final String PARISH = "p9,3,0,1+1;p4,6,4,0+2;p0,2,0,8+3;wa1;l2100;wh2;wm0;wt1;l0011;";

    /** What is asked and changes nothing. */
    private final List<ToIntFunction<ToWhoNeeds>> asked = new ArrayList<>();

    private LastCallTest() {
        for (int p = 0; p < 3; p++) {
            int person = p;
            asked.add(x -> x.need(person, 1));
            asked.add(x -> x.score(person, 2345));
            asked.add(x -> x.can(person));
            asked.add(x -> x.never(person));
            asked.add(x -> x.laws(person));
            asked.add(x -> x.eye(person, 1011, 0));
            asked.add(x -> x.eye(person, 1011, 1));
            asked.add(x -> x.surest(person));
            asked.add(x -> x.think(person, person, 1));
            asked.add(x -> x.think(person, 3, 2));
            asked.add(x -> x.forty(111, person));
            asked.add(x -> x.best(person));
        }
        for (int w = 0; w < 4; w++) {
            int writer = w;
            asked.add(x -> x.writes(writer));
            asked.add(x -> x.writer(writer, 2));
            asked.add(x -> x.both(writer, (writer + 1) % 4));
        }
        asked.add(x -> x.goes(5555));
        asked.add(x -> x.allNeed());
        asked.add(x -> x.who());
        asked.add(x -> x.before(0, 1));
        asked.add(x -> x.met(3, 120));
        asked.add(x -> x.met(2, 1));
        asked.add(x -> x.best(-1));
        asked.add(x -> x.greedy());
        asked.add(x -> x.tell(0, 1));
        asked.add(x -> x.year(1, 0));
        asked.add(x -> x.year(30, -5));
        asked.add(x -> x.count(2));
        asked.add(x -> x.count(7));
    }

    public static void main(String[] args) {
        LastCallTest test = new LastCallTest();
        test.behindEachOther();
        test.lastOfAll();
        test.whatHappensBetween();
        lettersAndParishes();
        toldAndForgotten();
        lawsErrsImages();
        happenings();
        refusedTo512();
        Check.end();
    }

    private static ToWhoNeeds told(int law) {
        ToWhoNeeds x = with(PARISH);
        x.order(21);
        x.order(5100);
        x.order(3);
        x.err(35);
        x.law(law);
        x.going(1, x.goes(1));
        x.going(1000, x.goes(1000));
        return x;
    }

    /** Each question behind each, as if it were the first. */
    private void behindEachOther() {
        promise = "II: in mind, as things stand";
        for (int law = 0; law < 5; law++) {
            for (int first = 0; first < asked.size(); first++) {
                ToWhoNeeds x = told(law);
                int due = asked.get(first).applyAsInt(told(law));
                for (int other = 0; other < asked.size(); other++) {
                    asked.get(other).applyAsInt(x);
                    Check.due(promise + ": by law " + law + " " + first + " behind " + other,
                        asked.get(first).applyAsInt(x), due);
                }
                due(refusals(x), 0);
            }
        }
    }

    /** Each question as the 512th call, behind all of them in turn. */
    private void lastOfAll() {
        promise = "What it is: at most 512 calls";
        int ahead = PARISH.length() + 1 + 9;
        for (int last = 0; last < asked.size(); last++) {
            int law = last % 5;
            ToWhoNeeds x = told(law);
            for (int call = ahead + 1; call < CALLS; call++) {
                asked.get((call + last) % asked.size()).applyAsInt(x);
            }
            Check.due(promise + ": " + last + " at last", asked.get(last).applyAsInt(x),
                asked.get(last).applyAsInt(told(law)));
        }
    }

    /** What comes to pass does so whether or not much is asked in between. */
    private void whatHappensBetween() {
        promise = "10, 11, 29, 36: what comes to pass between questions";
        List<ToIntFunction<ToWhoNeeds>> happens = List.of(x -> x.post(1111), ToWhoNeeds::day, ToWhoNeeds::morning,
            ToWhoNeeds::image, x -> x.post(5005), x -> x.order(2), ToWhoNeeds::morning, x -> x.going(10, 1),
            ToWhoNeeds::on, ToWhoNeeds::day, ToWhoNeeds::morning, x -> x.row(2), ToWhoNeeds::judge);
        for (int law = 0; law < 5; law++) {
            ToWhoNeeds x = told(law);
            ToWhoNeeds y = told(law);
            int question = 0;
            for (int step = 0; step < happens.size(); step++) {
                for (int i = 0; i < 32; i++) {
                    asked.get(question++ % asked.size()).applyAsInt(x);
                }
                due(happens.get(step).applyAsInt(x), happens.get(step).applyAsInt(y));
                for (int i = 0; i < asked.size(); i += 7) {
                    due(asked.get(i).applyAsInt(y), asked.get(i).applyAsInt(y));
                }
            }
            for (ToIntFunction<ToWhoNeeds> ask : asked.subList(0, 8)) {
                due(ask.applyAsInt(x), ask.applyAsInt(y));
            }
            due(x.allNeed(), y.allNeed());
            due(x.count(7), y.count(7));
        }
    }

    private static void lettersAndParishes() {
        promise = "2, 3: again and again";
        ToWhoNeeds x = with("p1,2,3,4+5;wa0;");
        // 16 calls, then 62 times 8.
        for (int i = 0; i < 62; i++) {
            say(x, "l0000;");
            due(x.count(6), 6);
            due(x.parish(), 1);
        }
        ToWhoNeeds y = new ToWhoNeeds();
        for (int call = 1; call < CALLS; call++) {
            due(y.parish(), -1000);
        }
        due(y.letter('w'), 1);
        ToWhoNeeds z = new ToWhoNeeds();
        for (int i = 1; i <= CALLS / 2; i++) {
            due(z.letter(';'), 1);
            due(z.parish(), -1000);
        }
        ToWhoNeeds late = new ToWhoNeeds();
        for (int call = 1; call <= CALLS - 15; call++) {
            late.day();
        }
        say(late, "p30,0,7,09+9;");
        due(late.parish(), 1);
        due(late.need(0, 3), 9);
    }

    private static void toldAndForgotten() {
        promise = "17, 18, 23, 33, 34: again and again";
        ToWhoNeeds x = new ToWhoNeeds();
        for (int i = 1; i <= CALLS / 2; i++) {
            due(x.order(i % 6), 1);
            due(x.forget(), 1);
        }
        ToWhoNeeds full = new ToWhoNeeds();
        for (int i = 1; i < CALLS; i++) {
            due(full.order(0), i <= 5 ? i : -6);
        }
        due(full.forget(), 5);
        ToWhoNeeds gone = new ToWhoNeeds();
        for (int i = 1; i < CALLS; i++) {
            due(gone.going(0, -1), i <= 6 ? i : -6);
        }
        due(gone.count(3), 6);
        ToWhoNeeds rows = new ToWhoNeeds();
        for (int i = 1; i < CALLS; i++) {
            due(rows.row(9), i <= 8 ? i : -6);
        }
        due(rows.judge(), 0);
        ToWhoNeeds judged = new ToWhoNeeds();
        for (int i = 1; i <= CALLS / 2; i++) {
            due(judged.row(i % 10), 1);
            due(judged.judge(), 0);
        }
    }

    private static void lawsErrsImages() {
        promise = "6, 7, 35, 36: again and again";
        ToWhoNeeds x = new ToWhoNeeds();
        for (int i = 1; i <= CALLS; i++) {
            due(x.law(i % 5), (i - 1) % 5);
        }
        ToWhoNeeds y = new ToWhoNeeds();
        for (int i = 1; i <= CALLS; i++) {
            due(y.err(i % 51), (i - 1) % 51);
        }
        ToWhoNeeds z = new ToWhoNeeds();
        for (int i = 1; i <= CALLS / 4; i++) {
            due(z.day(), 0);
            due(z.image(), i);
            due(z.day(), 0);
            due(z.on(), i);
        }
        // The first image of all is the one, however long ago.
        ToWhoNeeds old = with("p5,6,7,8+1;");
        old.post(1);
        due(old.image(), 0);
        for (int call = 15; call < CALLS - 1; call++) {
            old.day();
        }
        due(old.on(), 0);
        due(old.allNeed(), 25);
    }

    private static void happenings() {
        promise = "10, 11, 29: again and again";
        ToWhoNeeds x = with("p0,1,2,3+1;");
        for (int i = 1; i <= CALLS - 12; i++) {
            due(x.day(), Math.min(30, i) + Math.min(30, i + 1) + Math.min(30, i + 2) + Math.min(30, i + 3));
        }
        ToWhoNeeds y = with("p30,30,30,30+0;");
        for (int i = 1; i <= CALLS - 17; i++) {
            due(y.post(1), i <= 30 ? 0 : -9);
        }
        due(y.count(7), CALLS - 17);
        // One of GOOD 0, one of GOOD 1, none, then two of each that is left: 3 3 2 2 less.
        ToWhoNeeds z = with("p30,30,30,30+0;wp0;l1000;wp0;l0100;wp0;wm0;");
        for (int i = 1; i <= CALLS - 45; i++) {
            due(z.morning(), i <= 10 ? 3 : i <= 15 ? 1 : 0);
        }
        due(z.count(7), 4 * (CALLS - 45));
    }

    private static void refusedTo512() {
        promise = "37: 11 .. 16 REFUSALS -1 .. -6";
        ToWhoNeeds[] x = new ToWhoNeeds[6];
        for (int i = 0; i < 6; i++) {
            x[i] = new ToWhoNeeds();
        }
        for (int call = 1; call < CALLS; call++) {
            due(x[0].post(6), -1);
            due(x[1].law(5), -2);
            due(x[2].on(), -3);
            due(x[3].best(-2), -4);
            due(x[5].year(31, 0), -6);
            x[4].count(15);
        }
        for (int i = 0; i < 6; i++) {
            due(x[i].count(11 + i), i == 4 ? 0 : CALLS - 1);
        }
    }
}
