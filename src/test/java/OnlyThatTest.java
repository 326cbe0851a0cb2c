import java.util.ArrayList;
import java.util.Arrays;
import java.util.HashSet;
import java.util.List;
import java.util.Set;
import java.util.function.ToIntFunction;

/**
 * What each call changes, and that it changes nothing else ("in mind", "nothing changes", "are no
 * more"): all that can be told apart of an object, part by part, behind the call and without it.
 */
public final class OnlyThatTest extends ByHand {
    private static final String[] PARTS = {"needs", "growths", "writers", "law", "err", "told", "goings", "day", "row",
        "letters", "posted", "refusals", "image"};

    /** The letters that came and are no PARISH yet. */
    private static String waiting = "p1,2";

    private OnlyThatTest() { }

    public static void main(String[] args) {
        parish();
        told();
        happens();
        imageAndOn();
        asked();
        Check.end();
    }

    private static void parish() {
        promise = "2, 3: letter, parish";
        changes("letter", x -> x.letter('l'), 5, "letters");
        changes("parish", ToWhoNeeds::parish, -1004, "letters");
        waiting = "p7,7,0,0+0;";
        changes("parish of a PERSON", ToWhoNeeds::parish, 1, "needs", "growths", "letters");
        waiting = "wm2;";
        changes("parish of a WRITER", ToWhoNeeds::parish, 1, "writers", "letters");
        waiting = "l5432;";
        changes("parish of a LETTER", ToWhoNeeds::parish, 1, "writers", "letters");
        waiting = "p1,0,0,0+3;wm2;l005";
        changes("parish, kind 1", ToWhoNeeds::parish, -1019, "letters");
        waiting = "p1,0,0,0+3;wm2;l0060;";
        changes("parish, kind 2", ToWhoNeeds::parish, -2015, "letters");
        waiting = "";
        changes("parish of nothing", ToWhoNeeds::parish, -1000);
        waiting = "p1,2";
    }

    private static void told() {
        promise = "6, 7: law, err";
        changes("law", x -> x.law(4), 1, "law");
        changes("law as it is", x -> x.law(1), 1);
        changes("err", x -> x.err(50), 35, "err");
        changes("err as it is", x -> x.err(35), 35);
        promise = "17, 18, 23, 33, 34: order, forget, going, row, judge";
        changes("order", x -> x.order(4321), 4, "told");
        changes("forget", x -> x.forget(), 3, "told");
        changes("going", x -> x.going(10, 1), 3, "goings");
        changes("going to none", x -> x.going(1, -1), 3, "goings");
        changes("row", x -> x.row(9), 3, "row");
        changes("judge", x -> x.judge(), 0, "row");
    }

    private static void happens() {
        promise = "10, 11, 29: post, day, morning";
        // By MET all have 3 of it.
        changes("post", x -> x.post(21), 0, "needs", "posted");
        changes("post to none", x -> x.post(0), -9, "posted");
        changes("day", x -> x.day(), 56 + 4 * (1 + 2 + 3), "needs", "day");
        // 12 to 0; then AHEAD 100 to 0 as well, behind which 100 goes to 1.
        changes("morning", x -> x.morning(), 1, "needs", "posted");
    }

    private static void imageAndOn() {
        promise = "35, 36: image, on";
        changes("image", x -> x.image(), 2, "image");
        changes("on", x -> x.on(), 1, "needs", "writers", "law", "err", "told", "goings", "day", "posted");
    }

    private static void asked() {
        promise = "4, 5, 8, 9, 12 and II: in mind, as things stand";
        for (int person = 0; person < 3; person++) {
            int p = person;
            asks("can " + p, x -> x.can(p));
            asks("never " + p, x -> x.never(p));
            asks("before " + p, x -> x.before(p, 1));
            asks("laws " + p, x -> x.laws(p));
            asks("surest " + p, x -> x.surest(p));
            asks("think " + p, x -> x.think(p, 2, 0));
            asks("eye " + p, x -> x.eye(p, 1, 0));
            asks("need " + p, x -> x.need(p, 3));
            asks("score " + p, x -> x.score(p, 5555));
        }
        asks("writer", x -> x.writer(1, 2));
        asks("goes", x -> x.goes(5555));
        asks("allNeed", x -> x.allNeed());
        asks("who", x -> x.who());
        asks("met", x -> x.met(3, 120));
        asks("best", x -> x.best(-1));
        asks("best's i-th", x -> x.best(2));
        asks("greedy", x -> x.greedy());
        asks("forty", x -> x.forty(11, 3));
        asks("tell", x -> x.tell(0, 0));
        asks("writes 0", x -> x.writes(0));
        asks("writes 1", x -> x.writes(1));
        asks("both", x -> x.both(0, 1));
        asks("year", x -> x.year(30, 77));
        for (int what = -1; what <= 17; what++) {
            int w = what;
            asks("count " + w, x -> x.count(w));
        }
    }

    /** Three PERSONS, two WRITERS and something of all that there is, other than at the image. */
    private static ToWhoNeeds rich() {
        ToWhoNeeds x = with("p9,3,0,1+1;p4,6,4,0+2;p0,2,0,8+3;wp0;l2100;");
        x.order(3);
        x.going(1, 1);
        x.err(7);
        x.day();
        x.image();
        tell(x, "wh1;l0011;");
        x.day();
        x.law(1);
        x.err(35);
        x.post(1100);
        x.post(5551);
        x.post(551);
        x.order(112);
        x.order(5100);
        x.going(10, 0);
        x.need(9, 9);
        x.law(9);
        rows(x, 2, 1);
        x.letter(256);
        say(x, waiting);
        return x;
    }

    private static void asks(String call, ToIntFunction<ToWhoNeeds> calling) {
        changes(call, calling, calling.applyAsInt(rich()));
    }

    /** On an object for each part: the part behind the call is another than without it, or the same. */
    private static void changes(String call, ToIntFunction<ToWhoNeeds> calling, int answer, String... parts) {
        Set<String> due = new HashSet<>(Arrays.asList(parts));
        for (String part : PARTS) {
            ToWhoNeeds called = rich();
            Check.due(promise + ": " + call, calling.applyAsInt(called), answer);
            boolean isOther = !seen(part, called).equals(seen(part, rich()));
            Check.due(promise + ": " + call + " changes " + part, isOther ? 1 : 0, due.contains(part) ? 1 : 0);
        }
    }

    private static List<Integer> seen(String part, ToWhoNeeds x) {
        List<Integer> seen = new ArrayList<>();
        switch (part) {
            case "needs" -> needs(x, seen);
            case "growths" -> growths(x, seen);
            case "writers" -> writers(x, seen);
            case "law" -> seen.add(x.law(0));
            case "err" -> seen.add(x.err(0));
            case "told" -> told(x, seen);
            case "goings" -> goings(x, seen);
            case "day" -> seen.add(x.count(4));
            case "row" -> row(x, seen);
            case "letters" -> letters(x, seen);
            case "posted" -> seen.add(x.count(7));
            case "refusals" -> refusals(x, seen);
            default -> image(x, seen);
        }
        return seen;
    }

    private static void needs(ToWhoNeeds x, List<Integer> seen) {
        for (int person = 0; person < x.count(0); person++) {
            for (int good = 0; good < 4; good++) {
                seen.add(x.need(person, good));
            }
        }
    }

    /** Each PERSON's NEED that is small enough to show what a day brings. */
    private static void growths(ToWhoNeeds x, List<Integer> seen) {
        List<Integer> before = new ArrayList<>();
        needs(x, before);
        x.day();
        for (int person = 0; person < x.count(0); person++) {
            int most = 0;
            for (int good = 0; good < 4; good++) {
                most = Math.max(most, x.need(person, good) - before.get(4 * person + good));
            }
            seen.add(most);
        }
    }

    private static void writers(ToWhoNeeds x, List<Integer> seen) {
        for (int writer = 0; writer < x.count(1); writer++) {
            for (int what = 0; what < 3; what++) {
                seen.add(x.writer(writer, what));
            }
        }
    }

    /** No NEEDS, LAW 0, whatever was: then each day brings each NEED of PERSONS 0, 1, 2 by 1, 2, 3. */
    private static void level(ToWhoNeeds x) {
        x.law(0);
        for (int i = 0; i < 160 && x.allNeed() > 0; i++) {
            x.post(5555);
        }
        due(x.allNeed(), 0);
    }

    /** The told LETTERS by how much each meets where 2 has 6 of each GOOD. */
    private static void told(ToWhoNeeds x, List<Integer> seen) {
        level(x);
        x.day();
        x.day();
        seen.add(x.count(2));
        for (int i = 0; i < x.count(2); i++) {
            seen.add(x.met(1, i));
        }
    }

    private static void goings(ToWhoNeeds x, List<Integer> seen) {
        level(x);
        seen.add(x.count(3));
        for (int person = 0; person < 3; person++) {
            for (int good = 0; good < 4; good++) {
                seen.add(x.think(person, good, 2));
            }
        }
    }

    /** Whether the ROW is 2 and 1, as LETTERS go then, and if not where. */
    private static void row(ToWhoNeeds x, List<Integer> seen) {
        seen.add(x.count(5));
        level(x);
        x.day();
        x.forget();
        x.order(5);
        x.order(5);
        seen.add(x.judge());
    }

    private static void letters(ToWhoNeeds x, List<Integer> seen) {
        seen.add(x.count(6));
        x.letter('x');
        seen.add(x.parish());
    }

    private static void refusals(ToWhoNeeds x, List<Integer> seen) {
        for (int what = 11; what <= 16; what++) {
            seen.add(x.count(what));
        }
    }

    private static void image(ToWhoNeeds x, List<Integer> seen) {
        seen.add(x.on());
        needs(x, seen);
        writers(x, seen);
        for (int what = 0; what <= 4; what++) {
            seen.add(x.count(what));
        }
        seen.add(x.count(7));
        seen.add(x.law(0));
        seen.add(x.err(0));
    }
}
