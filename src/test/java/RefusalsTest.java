import java.util.ArrayList;
import java.util.List;
import java.util.function.Consumer;
import java.util.function.ToIntFunction;

/**
 * "REFUSALS (the call answers the number, the first that fits in the order in which it tells them;
 * nothing changes but how many there were)": each refused call on one of two objects that were told
 * the same; then all that can be seen of both must be the same.
 */
public final class RefusalsTest {
    private static final int MIN = Integer.MIN_VALUE;
    private static final int MAX = Integer.MAX_VALUE;
    private static final int[] NO_LETTERS = {-1, 6, 7, 9, 16, 60, 600, 6000, 5556, 5565, 5655, 6555, 9999, 10000, 10001,
        15555, 50000, -5, -10, -5555, MIN, MAX, MAX - 1, MIN + 1};
    private static final int[] NO_GOODS = {-1, 4, MIN, MAX};

    private final String name;
    private final Consumer<ToWhoNeeds> telling;

    private RefusalsTest(String name, Consumer<ToWhoNeeds> telling) {
        this.name = name;
        this.telling = telling;
    }

    public static void main(String[] args) {
        new RefusalsTest("a new object", x -> { }).none();
        new RefusalsTest("some", RefusalsTest::tellSome).some();
        new RefusalsTest("all full", RefusalsTest::tellAll).full();
        Check.end();
    }

    private static void tell(ToWhoNeeds x, String text) {
        ByHand.tell(x, text);
    }

    private static void times(int n, Runnable call) {
        for (int i = 0; i < n; i++) {
            call.run();
        }
    }

    /** Two PERSONS, one WRITER, something of everything; an image of a day ahead. */
    private static void tellSome(ToWhoNeeds x) {
        tell(x, "p3,9,4,0+2;p5,1,4,0+0;wa1;l0120;");
        x.order(11);
        x.going(1, 1);
        x.image();
        x.day();
        x.law(2);
        x.err(20);
        x.order(1000);
        x.row(1);
        x.post(100);
        x.day();
        ByHand.say(x, "p1,2");
    }

    /** No room anywhere, and a told GOING with which nothing is so. */
    private static void tellAll(ToWhoNeeds x) {
        tell(x, "p9,0,0,0+1;p0,9,0,0+0;p0,0,9,0+0;p0,0,0,9+0;p6,6,0,0+9;");
        tell(x, "p0,0,6,6+0;wp0;wa1;wm2;wh5;l1200;");
        times(5, () -> x.order(x.count(2) + 11));
        times(5, () -> x.going(1, 0));
        x.going(1, 2);
        times(8, () -> x.row(x.count(5)));
        times(2, x::image);
        x.day();
        tell(x, "l0021;");
        ByHand.say(x, "l0011;".repeat(10) + "l000");
    }

    private void none() {
        persons(0);
        writers(0);
        refused("forty(1, 1)", x -> x.forty(1, 1), -6);
        refused("met(1, 0)", x -> x.met(1, 0), -1);
        refused("met(5, 43210)", x -> x.met(5, 43210), -1);
        refused("on()", x -> x.on(), -3);
        letters();
        numbers();
    }

    private void some() {
        persons(2);
        writers(1);
        letters();
        numbers();
        whats();
        for (int order : new int[] {2, 3, 9, -1, -2, MIN, MAX}) {
            refused("met(1, " + order + ")", x -> x.met(1, order), -1);
        }
        for (int order : new int[] {0, 11, 20, 12, 2, -10, -1}) {
            refused("met(2, " + order + ")", x -> x.met(2, order), -1);
        }
        refused("met(3, 210)", x -> x.met(3, 210), -1);
        refused("forty(1, 3)", x -> x.forty(1, 3), -6);
        refused("forty(6, 3)", x -> x.forty(6, 3), -1);
        refused("forty(6, -1)", x -> x.forty(6, -1), -1);
    }

    private void full() {
        persons(6);
        writers(4);
        letters();
        numbers();
        whats();
        // No room: -1 and -4 are told ahead of -6.
        refused("order(0)", x -> x.order(0), -6);
        refused("order(5555)", x -> x.order(5555), -6);
        refused("going(0, -1)", x -> x.going(0, -1), -6);
        refused("going(5555, 5)", x -> x.going(5555, 5), -6);
        for (int c = 0; c <= 255; c++) {
            int sign = c;
            refused("letter(" + c + ")", x -> x.letter(sign), -6);
        }
        for (int v = 0; v <= 9; v++) {
            int person = v;
            refused("row(" + v + ")", x -> x.row(person), -6);
        }
        refused("met(5, 54321)", x -> x.met(5, 54321), -1);
        refused("met(5, 43211)", x -> x.met(5, 43211), -1);
        refused("forty(1, 7)", x -> x.forty(1, 7), -6);
        for (int good = 0; good < 4; good++) {
            int g = good;
            refused("tell(1, " + g + ")", x -> x.tell(1, g), -3);
            refused("tell(5, " + g + ")", x -> x.tell(5, g), -3);
        }
    }

    /** All calls with a PERSON, where there are so many: -1, whatever else is wrong behind it. */
    private void persons(int persons) {
        for (int person : new int[] {-1, persons, persons + 1, -2, 9, MIN, MAX}) {
            String p = "(" + person;
            for (int good : new int[] {0, 3, -1, 4}) {
                refused("need" + p + ", " + good + ")", x -> x.need(person, good), -1);
                refused("tell" + p + ", " + good + ")", x -> x.tell(person, good), -1);
                refused("think" + p + ", " + good + ", 0)", x -> x.think(person, good, 0), -1);
                refused("think" + p + ", " + good + ", 3)", x -> x.think(person, good, 3), -1);
            }
            for (int letter : new int[] {0, 1, 5555, 6}) {
                refused("score" + p + ", " + letter + ")", x -> x.score(person, letter), -1);
                refused("eye" + p + ", " + letter + ", 0)", x -> x.eye(person, letter, 0), -1);
                refused("eye" + p + ", " + letter + ", 2)", x -> x.eye(person, letter, 2), -1);
                if (person != -1) {
                    refused("going(" + letter + ", " + person + ")", x -> x.going(letter, person), -1);
                }
            }
            for (int what = -1; what <= 2; what++) {
                int w = what;
                refused("before" + p + ", " + w + ")", x -> x.before(person, w), -1);
            }
            refused("can" + p + ")", x -> x.can(person), -1);
            refused("never" + p + ")", x -> x.never(person), -1);
            refused("laws" + p + ")", x -> x.laws(person), -1);
            refused("surest" + p + ")", x -> x.surest(person), -1);
        }
        for (int person = 0; person < persons; person++) {
            int p = person;
            for (int good : NO_GOODS) {
                refused("need(" + p + ", " + good + ")", x -> x.need(p, good), -1);
                refused("tell(" + p + ", " + good + ")", x -> x.tell(p, good), -1);
                refused("think(" + p + ", " + good + ", 0)", x -> x.think(p, good, 0), -1);
                refused("think(" + p + ", " + good + ", 3)", x -> x.think(p, good, 3), -1);
            }
        }
    }

    private void writers(int writers) {
        for (int writer : new int[] {-1, writers, writers + 1, 9, MIN, MAX}) {
            for (int what : new int[] {-1, 0, 2, 3}) {
                refused("writer(" + writer + ", " + what + ")", x -> x.writer(writer, what), -1);
            }
            refused("writes(" + writer + ")", x -> x.writes(writer), -1);
            for (int other = -1; other <= writers; other++) {
                int o = other;
                refused("both(" + writer + ", " + o + ")", x -> x.both(writer, o), -1);
                refused("both(" + o + ", " + writer + ")", x -> x.both(o, writer), -1);
            }
        }
        for (int writer = 0; writer < writers; writer++) {
            int w = writer;
            refused("both(" + w + ", " + w + ")", x -> x.both(w, w), -1);
        }
    }

    /** All calls with a LETTER: -1, whatever else is wrong. */
    private void letters() {
        for (int letter : NO_LETTERS) {
            String l = "(" + letter;
            refused("score(0, " + letter + ")", x -> x.score(0, letter), -1);
            refused("goes" + l + ")", x -> x.goes(letter), -1);
            refused("post" + l + ")", x -> x.post(letter), -1);
            refused("order" + l + ")", x -> x.order(letter), -1);
            for (int n : new int[] {-1, 0, 7}) {
                refused("forty" + l + ", " + n + ")", x -> x.forty(letter, n), -1);
            }
            refused("going" + l + ", -1)", x -> x.going(letter, -1), -1);
            refused("going" + l + ", 0)", x -> x.going(letter, 0), -1);
            refused("eye(0, " + letter + ", 0)", x -> x.eye(0, letter, 0), -1);
            refused("eye(0, " + letter + ", 2)", x -> x.eye(0, letter, 2), -1);
        }
    }

    /** -2 of those who are there. */
    private void whats() {
        for (int what : new int[] {-1, 2, 3, MIN, MAX}) {
            refused("before(0, " + what + ")", x -> x.before(0, what), -2);
            refused("eye(0, 1, " + what + ")", x -> x.eye(0, 1, what), -2);
            if (what != 2) {
                refused("writer(0, " + what + ")", x -> x.writer(0, what), -2);
                refused("think(1, 3, " + what + ")", x -> x.think(1, 3, what), -2);
            }
        }
    }

    /** Numbers below the least and above the greatest, whatever is there. */
    private void numbers() {
        for (int low : new int[] {-1, -2, MIN}) {
            refused("letter(" + low + ")", x -> x.letter(low), -4);
            refused("err(" + low + ")", x -> x.err(low), -4);
            refused("met(" + low + ", 0)", x -> x.met(low, 0), -4);
            refused("met(" + low + ", 99)", x -> x.met(low, 99), -4);
            refused("best(" + (low - 1) + ")", x -> x.best(low == MIN ? MIN : low - 1), -4);
            refused("forty(5555, " + low + ")", x -> x.forty(5555, low), -4);
            refused("year(" + low + ", 5)", x -> x.year(low, 5), -4);
            refused("row(" + low + ")", x -> x.row(low), -4);
            refused("law(" + low + ")", x -> x.law(low), -2);
        }
        refused("year(0, 5)", x -> x.year(0, 5), -4);
        for (int above : new int[] {1, 2, 1000, MAX - 255}) {
            refused("letter(255 + " + above + ")", x -> x.letter(255 + above), -6);
            refused("err(50 + " + above + ")", x -> x.err(50 + above), -6);
            refused("met(5 + " + above + ", 0)", x -> x.met(5 + above, 0), -6);
            refused("met(5 + " + above + ", 99)", x -> x.met(5 + above, 99), -6);
            refused("forty(5555, 6 + " + above + ")", x -> x.forty(5555, 6 + above), -6);
            refused("year(30 + " + above + ", 5)", x -> x.year(30 + above, 5), -6);
            refused("row(9 + " + above + ")", x -> x.row(9 + above), -6);
            refused("law(4 + " + above + ")", x -> x.law(4 + above), -2);
        }
    }

    private void refused(String call, ToIntFunction<ToWhoNeeds> refusing, int number) {
        ToWhoNeeds one = new ToWhoNeeds();
        ToWhoNeeds other = new ToWhoNeeds();
        telling.accept(one);
        telling.accept(other);
        String at = name + ", " + call;
        Check.due(at, refusing.applyAsInt(one), number);
        for (int i = 1; i <= 6; i++) {
            Check.due(at + ": count(" + (10 + i) + ")", one.count(10 + i), other.count(10 + i) + (i == -number ? 1 : 0));
        }
        List<Integer> ofOne = seen(one);
        List<Integer> ofOther = seen(other);
        for (int i = 0; i < ofOther.size(); i++) {
            Check.due(at + ": look " + i + " behind it", i < ofOne.size() ? ofOne.get(i) : -99, ofOther.get(i));
        }
    }

    /** All that can be seen of an object: as it is, then the letters read, then ON from its image. */
    private static List<Integer> seen(ToWhoNeeds x) {
        List<Integer> seen = new ArrayList<>();
        see(x, seen);
        for (int i = 0; i < x.count(2); i++) {
            seen.add(x.best(i));
        }
        seen.add(x.greedy());
        seen.add(x.judge());
        seen.add(x.parish());
        seen.add(x.on());
        see(x, seen);
        return seen;
    }

    private static void see(ToWhoNeeds x, List<Integer> seen) {
        for (int what = 0; what <= 7; what++) {
            seen.add(x.count(what));
        }
        seen.add(x.law(0));
        seen.add(x.err(0));
        for (int person = 0; person < x.count(0); person++) {
            for (int good = 0; good < 4; good++) {
                seen.add(x.need(person, good));
            }
            seen.add(x.think(person, 0, 2));
        }
        for (int writer = 0; writer < x.count(1); writer++) {
            for (int what = 0; what <= 2; what++) {
                seen.add(x.writer(writer, what));
            }
        }
        for (int i = 0; i < x.count(2); i++) {
            seen.add(x.met(1, i));
        }
        // GROWTHS show in what the next day brings.
        seen.add(x.year(1, 1));
    }
}
