import java.util.ArrayList;
import java.util.Arrays;
import java.util.HashMap;
import java.util.HashSet;
import java.util.List;
import java.util.Map;
import java.util.Set;
import java.util.regex.Matcher;
import java.util.regex.Pattern;

/**
 * The document once more, as slowly and as literally as it reads, with the Java library: what
 * ModelTest holds the class against. It shares nothing with the class.
 */
public final class Model {
    private static final Pattern STATEMENT = Pattern.compile(
        "p(\\d{1,2}),(\\d{1,2}),(\\d{1,2}),(\\d{1,2})\\+(\\d);|w([pamth])(\\d);|l(\\d)(\\d)(\\d)(\\d);");

    private record Writer(char kind, int person, int letter) { }

    private record Going(int letter, int person) { }

    private record Image(List<int[]> needs, List<Integer> growths, List<Writer> writers, int law, int err,
        List<Integer> told, List<Going> goings, int day, int posted) { }

    private List<int[]> needs = new ArrayList<>();
    private List<Integer> growths = new ArrayList<>();
    private List<Writer> writers = new ArrayList<>();
    private List<Integer> told = new ArrayList<>();
    private List<Going> goings = new ArrayList<>();
    private List<Integer> row = new ArrayList<>();
    private String text = "";
    private int law;
    private int err;
    private int day;
    private int posted;
    private Image image;
    private final Map<Integer, Integer> refusals = new HashMap<>();

    private int no(int number) {
        refusals.merge(number, 1, Integer::sum);
        return number;
    }

    private boolean person(int p) {
        return p >= 0 && p < needs.size();
    }

    private static boolean good(int g) {
        return g >= 0 && g <= 3;
    }

    private static boolean isLetter(int l) {
        return l >= 0 && l <= 5555 && String.valueOf(l).matches("[0-5]+");
    }

    private static int[] amounts(int letter) {
        return new int[] {letter % 10, letter / 10 % 10, letter / 100 % 10, letter / 1000};
    }

    private static int cost(int letter) {
        return Arrays.stream(amounts(letter)).sum();
    }

    private static List<Integer> two() {
        List<Integer> letters = new ArrayList<>();
        for (int l = 0; l <= 2222; l++) {
            if (String.valueOf(l).matches("[0-2]+")) {
                letters.add(l);
            }
        }
        return letters;
    }

    private static final List<Integer> TWO = two();

    private static List<int[]> copy(List<int[]> of) {
        List<int[]> copy = new ArrayList<>();
        of.forEach(n -> copy.add(n.clone()));
        return copy;
    }

    private static int sum(List<int[]> of) {
        return of.stream().mapToInt(n -> Arrays.stream(n).sum()).sum();
    }

    private static int scoreBy(int law, int[] need, int letter) {
        int[] a = amounts(letter);
        int sum = 0;
        int met = 0;
        int most = 0;
        for (int g = 0; g < 4; g++) {
            sum += a[g] * need[g];
            met += Math.min(a[g], need[g]);
            most = a[g] > 0 ? Math.max(most, need[g]) : most;
        }
        return law == 0 || law == 3 ? sum : law == 2 ? most : met;
    }

    /** All with a SCORE above 0, the greatest first, then by numbers. */
    private static List<Integer> ranked(int law, List<int[]> needs, int letter) {
        List<Integer> who = new ArrayList<>();
        for (int p = 0; p < needs.size(); p++) {
            if (scoreBy(law, needs.get(p), letter) > 0) {
                who.add(p);
            }
        }
        who.sort((x, y) -> {
            int sx = scoreBy(law, needs.get(x), letter);
            int sy = scoreBy(law, needs.get(y), letter);
            return sx != sy ? sy - sx : x - y;
        });
        return who;
    }

    private static int to(int law, List<int[]> needs, int letter) {
        List<Integer> who = ranked(law, needs, letter);
        if (who.isEmpty()) {
            return -9;
        }
        return law == 3 && who.size() > 1 ? who.get(1) : who.get(0);
    }

    private static void have(int[] need, int letter) {
        int[] a = amounts(letter);
        for (int g = 0; g < 4; g++) {
            need[g] = Math.max(0, need[g] - a[g]);
        }
    }

    /** All who have it, the first first. */
    private static List<Integer> send(int law, List<int[]> needs, int letter) {
        List<Integer> had = new ArrayList<>();
        int next = to(law, needs, letter);
        while (next != -9) {
            have(needs.get(next), letter);
            had.add(next);
            next = -9;
            if (law == 4) {
                for (int p : ranked(law, needs, letter)) {
                    if (next == -9 && !had.contains(p)) {
                        next = p;
                    }
                }
            }
        }
        return had;
    }

    private static int first(List<Integer> had) {
        return had.isEmpty() ? -9 : had.get(0);
    }

    private static List<int[]> behind(int law, List<int[]> needs, int letter) {
        List<int[]> then = copy(needs);
        send(law, then, letter);
        return then;
    }

    private static void grow(List<int[]> needs, List<Integer> growths) {
        for (int p = 0; p < needs.size(); p++) {
            for (int g = 0; g < 4; g++) {
                needs.get(p)[g] = Math.min(30, needs.get(p)[g] + growths.get(p));
            }
        }
    }

    public int letter(int c) {
        if (c < 0) {
            return no(-4);
        }
        if (c > 255 || text.length() == 64) {
            return no(-6);
        }
        text += (char) c;
        return text.length();
    }

    /** Whether some PARISH begins with this: tried by how each STATEMENT could end. */
    private static boolean begins(String start) {
        Matcher m = STATEMENT.matcher(start);
        int end = 0;
        while (m.find() && m.start() == end) {
            end = m.end();
        }
        String rest = start.substring(end);
        if (rest.isEmpty()) {
            return true;
        }
        for (String whole : new String[] {"p0,0,0,0+0;", "p00,0,0,0+0;", "p00,00,0,0+0;", "p00,00,00,0+0;",
            "p00,00,00,00+0;", "p0,00,0,0+0;", "p0,0,00,0+0;", "p0,0,0,00+0;", "p0,00,00,0+0;", "p0,0,00,00+0;",
            "p0,00,0,00+0;", "p00,0,00,0+0;", "p00,0,0,00+0;", "p00,00,0,00+0;", "p00,0,00,00+0;",
            "p0,00,00,00+0;", "wp0;", "l0000;"}) {
            String shape = rest.replaceAll("\\d", "0").replaceAll("^w[pamth]", "wp");
            if (whole.startsWith(shape)) {
                return true;
            }
        }
        return false;
    }

    public int parish() {
        String said = text;
        text = "";
        for (int i = 1; i <= said.length(); i++) {
            if (!begins(said.substring(0, i))) {
                return -1000 - (i - 1);
            }
        }
        if (said.isEmpty() || !said.endsWith(";")) {
            return -1000 - said.length();
        }
        List<int[]> newNeeds = copy(needs);
        List<Integer> newGrowths = new ArrayList<>(growths);
        List<Writer> newWriters = new ArrayList<>(writers);
        Matcher m = STATEMENT.matcher(said);
        int statements = 0;
        while (m.find()) {
            if (!says(m, newNeeds, newGrowths, newWriters)) {
                return -2000 - m.start();
            }
            statements++;
        }
        needs = newNeeds;
        growths = newGrowths;
        writers = newWriters;
        return statements;
    }

    private static boolean says(Matcher m, List<int[]> needs, List<Integer> growths, List<Writer> writers) {
        if (m.group(1) != null) {
            int[] need = new int[4];
            for (int g = 0; g < 4; g++) {
                need[g] = Integer.parseInt(m.group(g + 1));
                if (need[g] > 30) {
                    return false;
                }
            }
            needs.add(need);
            growths.add(Integer.parseInt(m.group(5)));
            return needs.size() <= 6;
        }
        if (m.group(6) != null) {
            int person = Integer.parseInt(m.group(7));
            writers.add(new Writer(m.group(6).charAt(0), person, 0));
            return person < needs.size() && writers.size() <= 4;
        }
        int letter = Integer.parseInt(m.group(11) + m.group(10) + m.group(9) + m.group(8));
        if (writers.isEmpty() || !isLetter(letter)) {
            return false;
        }
        Writer last = writers.remove(writers.size() - 1);
        writers.add(new Writer(last.kind, last.person, letter));
        return true;
    }

    public int need(int p, int g) {
        return !person(p) || !good(g) ? no(-1) : needs.get(p)[g];
    }

    public int writer(int w, int what) {
        if (w < 0 || w >= writers.size()) {
            return no(-1);
        }
        Writer x = writers.get(w);
        return what == 0 ? "pamth".indexOf(x.kind) : what == 1 ? x.person : what == 2 ? x.letter : no(-2);
    }

    public int law(int v) {
        if (v < 0 || v > 4) {
            return no(-2);
        }
        int was = law;
        law = v;
        return was;
    }

    public int err(int h) {
        if (h < 0 || h > 50) {
            return no(h < 0 ? -4 : -6);
        }
        int was = err;
        err = h;
        return was;
    }

    public int score(int p, int l) {
        return !person(p) || !isLetter(l) ? no(-1) : scoreBy(law, needs.get(p), l);
    }

    public int goes(int l) {
        return isLetter(l) ? to(law, needs, l) : no(-1);
    }

    public int post(int l) {
        if (!isLetter(l)) {
            return no(-1);
        }
        posted++;
        return first(send(law, needs, l));
    }

    public int day() {
        day++;
        grow(needs, growths);
        return sum(needs);
    }

    public int allNeed() {
        return sum(needs);
    }

    private static int canOf(int law, List<int[]> needs, int p) {
        return TWO.stream().filter(l -> to(law, needs, l) == p)
            .min((x, y) -> cost(x) != cost(y) ? cost(x) - cost(y) : x - y).orElse(-9);
    }

    public int can(int p) {
        return person(p) ? canOf(law, needs, p) : no(-1);
    }

    public int who() {
        int bits = 0;
        for (int l : TWO) {
            int p = to(law, needs, l);
            bits |= p == -9 ? 0 : 1 << p;
        }
        return bits;
    }

    public int never(int p) {
        if (!person(p)) {
            return no(-1);
        }
        int who = who();
        return (who & 1 << p) != 0 ? 0 : who;
    }

    public int before(int p, int what) {
        if (!person(p)) {
            return no(-1);
        }
        if (what < 0 || what > 1) {
            return no(-2);
        }
        Map<String, List<int[]>> states = new HashMap<>();
        Map<String, Integer> costs = new HashMap<>();
        states.put(key(needs), needs);
        costs.put(key(needs), 0);
        for (int n = 0; n <= 2; n++) {
            int least = Integer.MAX_VALUE;
            for (String k : states.keySet()) {
                if (costs.get(k) < least && canOf(law, states.get(k), p) != -9) {
                    least = costs.get(k);
                }
            }
            if (least < Integer.MAX_VALUE) {
                return what == 0 ? n : least;
            }
            Map<String, List<int[]>> next = new HashMap<>();
            Map<String, Integer> nextCosts = new HashMap<>();
            for (String k : states.keySet()) {
                for (int l : TWO) {
                    List<int[]> then = behind(law, states.get(k), l);
                    next.put(key(then), then);
                    nextCosts.merge(key(then), costs.get(k) + cost(l), Math::min);
                }
            }
            states = next;
            costs = nextCosts;
        }
        return -9;
    }

    private static String key(List<int[]> needs) {
        StringBuilder key = new StringBuilder();
        needs.forEach(n -> key.append(Arrays.toString(n)));
        return key.toString();
    }

    public int order(int l) {
        if (!isLetter(l)) {
            return no(-1);
        }
        if (told.size() == 5) {
            return no(-6);
        }
        told.add(l);
        return told.size();
    }

    public int forget() {
        int were = told.size();
        told.clear();
        return were;
    }

    private int less(List<Integer> order) {
        List<int[]> then = copy(needs);
        order.forEach(i -> send(law, then, told.get(i)));
        return sum(needs) - sum(then);
    }

    public int met(int n, int order) {
        if (n < 0) {
            return no(-4);
        }
        if (n > 5) {
            return no(-6);
        }
        List<Integer> line = new ArrayList<>();
        for (int i = 0; i < n; i++) {
            int d = (int) (order / Math.pow(10, i)) % 10;
            if (d < 0 || d >= told.size() || line.contains(d)) {
                return no(-1);
            }
            line.add(d);
        }
        return less(line);
    }

    private void lines(List<Integer> line, List<List<Integer>> all) {
        if (line.size() == told.size()) {
            all.add(new ArrayList<>(line));
        }
        for (int i = 0; i < told.size(); i++) {
            if (!line.contains(i)) {
                line.add(i);
                lines(line, all);
                line.remove(line.size() - 1);
            }
        }
    }

    public int best(int i) {
        if (i < -1) {
            return no(-4);
        }
        List<List<Integer>> all = new ArrayList<>();
        lines(new ArrayList<>(), all);
        int most = all.stream().mapToInt(this::less).max().getAsInt();
        if (i == -1) {
            return most;
        }
        List<Integer> best = all.stream().filter(x -> less(x) == most).findFirst().get();
        return i < best.size() ? best.get(i) : -9;
    }

    public int greedy() {
        List<Integer> line = new ArrayList<>();
        while (line.size() < told.size()) {
            int most = -1;
            int next = -1;
            for (int i = 0; i < told.size(); i++) {
                if (!line.contains(i)) {
                    List<Integer> tried = new ArrayList<>(line);
                    tried.add(i);
                    if (less(tried) > most) {
                        most = less(tried);
                        next = i;
                    }
                }
            }
            line.add(next);
        }
        return less(line);
    }

    public int forty(int l, int n) {
        if (!isLetter(l)) {
            return no(-1);
        }
        if (n < 0 || n > needs.size()) {
            return no(n < 0 ? -4 : -6);
        }
        List<int[]> then = copy(needs);
        Set<Integer> had = new HashSet<>();
        int times = 0;
        while (had.size() < n && times < 40) {
            had.addAll(send(law, then, l));
            times++;
        }
        return had.size() >= n ? times : -9;
    }

    public int going(int l, int p) {
        if (!isLetter(l) || p != -1 && !person(p)) {
            return no(-1);
        }
        if (goings.size() == 6) {
            return no(-6);
        }
        goings.add(new Going(l, p));
        return goings.size();
    }

    private List<Integer> values(int p, int g) {
        List<Integer> fits = new ArrayList<>();
        for (int v = 0; v <= 30; v++) {
            List<int[]> then = copy(needs);
            then.get(p)[g] = v;
            if (goings.stream().allMatch(x -> to(law, then, x.letter) == (x.person == -1 ? -9 : x.person))) {
                fits.add(v);
            }
        }
        return fits;
    }

    public int think(int p, int g, int what) {
        if (!person(p) || !good(g)) {
            return no(-1);
        }
        if (what < 0 || what > 2) {
            return no(-2);
        }
        List<Integer> fits = values(p, g);
        if (what == 2) {
            return fits.size();
        }
        return fits.isEmpty() ? -9 : fits.get(what == 0 ? 0 : fits.size() - 1);
    }

    public int tell(int p, int g) {
        if (!person(p) || !good(g)) {
            return no(-1);
        }
        List<Integer> fits = values(p, g);
        if (fits.isEmpty()) {
            return no(-3);
        }
        int most = 0;
        int answer = -99;
        for (int l : TWO) {
            Set<Integer> unlike = new HashSet<>();
            for (int v : fits) {
                List<int[]> then = copy(needs);
                then.get(p)[g] = v;
                unlike.add(to(law, then, l));
            }
            if (unlike.size() > most) {
                most = unlike.size();
                answer = l;
            }
        }
        return answer;
    }

    public int laws(int p) {
        if (!person(p)) {
            return no(-1);
        }
        int bits = 0;
        for (int v = 0; v < 5; v++) {
            bits |= canOf(v, needs, p) == -9 ? 0 : 1 << v;
        }
        return bits;
    }

    private int hundredths(int p, int l) {
        List<Integer> who = ranked(law, needs, l);
        if (who.size() < 2) {
            return who.contains(p) ? 100 : 0;
        }
        int usual = to(law, needs, l);
        int byError = usual == who.get(0) ? who.get(1) : who.get(0);
        return p == usual ? 100 - err : p == byError ? err : 0;
    }

    public int eye(int p, int l, int part) {
        if (!person(p) || !isLetter(l)) {
            return no(-1);
        }
        if (part < 0 || part > 1) {
            return no(-2);
        }
        int h = hundredths(p, l);
        int gcd = java.math.BigInteger.valueOf(h).gcd(java.math.BigInteger.valueOf(100)).intValue();
        return part == 0 ? h / gcd : 100 / gcd;
    }

    public int surest(int p) {
        if (!person(p)) {
            return no(-1);
        }
        return TWO.stream().filter(l -> hundredths(p, l) > 0).min((x, y) -> {
            int hx = hundredths(p, x);
            int hy = hundredths(p, y);
            return hx != hy ? hy - hx : cost(x) != cost(y) ? cost(x) - cost(y) : x - y;
        }).orElse(-9);
    }

    private int aim(List<int[]> needs, Writer w) {
        int can = canOf(law, needs, w.person);
        return can == -9 ? w.letter : can;
    }

    private int ahead(Writer w) {
        int now = canOf(law, needs, w.person);
        return TWO.stream().filter(l -> {
            int then = canOf(law, behind(law, needs, l), w.person);
            return then != -9 && (now == -9 || cost(then) < cost(now));
        }).min((x, y) -> cost(x) != cost(y) ? cost(x) - cost(y) : x - y).orElse(aim(needs, w));
    }

    private int all() {
        return TWO.stream().min((x, y) -> {
            int nx = sum(behind(law, needs, x));
            int ny = sum(behind(law, needs, y));
            return nx != ny ? nx - ny : cost(x) != cost(y) ? cost(x) - cost(y) : x - y;
        }).get();
    }

    private int writtenBy(Writer w) {
        return switch (w.kind) {
            case 'a' -> aim(needs, w);
            case 'm' -> all();
            case 't' -> day % 2 == 1 ? aim(needs, w) : w.letter;
            case 'h' -> ahead(w);
            default -> w.letter;
        };
    }

    public int morning() {
        int luck = 0;
        for (Writer w : writers) {
            int l = writtenBy(w);
            posted++;
            luck += first(send(law, needs, l)) == w.person ? 1 : 0;
        }
        return luck;
    }

    public int writes(int w) {
        return w < 0 || w >= writers.size() ? no(-1) : writtenBy(writers.get(w));
    }

    public int both(int a, int b) {
        if (a < 0 || a >= writers.size() || b < 0 || b >= writers.size() || a == b) {
            return no(-1);
        }
        int la = writers.get(a).letter;
        int lb = writers.get(b).letter;
        int round = 0;
        boolean changed = true;
        while (changed && round < 10) {
            round++;
            int wasA = la;
            int wasB = lb;
            la = aim(behind(law, needs, lb), writers.get(a));
            lb = aim(behind(law, needs, la), writers.get(b));
            changed = wasA != la || wasB != lb;
        }
        return changed ? -9 : round;
    }

    public int year(int n, int z) {
        if (n < 1 || n > 30) {
            return no(n < 1 ? -4 : -6);
        }
        List<int[]> then = copy(needs);
        int seed = z;
        for (int d = 0; d < n; d++) {
            int l = 0;
            for (int place = 1; place <= 1000; place *= 10) {
                seed = (int) (seed * 1664525L + 1013904223L);
                long unsigned = seed < 0 ? seed + 2147483648L : seed;
                l += place * (int) (unsigned / 256 % 3);
            }
            send(law, then, l);
            grow(then, growths);
        }
        return sum(then);
    }

    public int row(int v) {
        if (v < 0) {
            return no(-4);
        }
        if (v > 9 || row.size() == 8) {
            return no(-6);
        }
        row.add(v);
        return row.size();
    }

    private List<Integer> receiversOfTold() {
        List<int[]> then = copy(needs);
        List<Integer> receivers = new ArrayList<>();
        for (int l : told) {
            int p = first(send(law, then, l));
            receivers.add(p == -9 ? 9 : p);
        }
        return receivers;
    }

    /** What a ROW must say of the told LETTER at a place; 9 where there is none. */
    int receiverOfTold(int place) {
        List<Integer> receivers = receiversOfTold();
        return place < receivers.size() ? receivers.get(place) : 9;
    }

    public int judge() {
        List<Integer> real = receiversOfTold();
        List<Integer> said = row;
        row = new ArrayList<>();
        for (int i = 0; i < Math.min(said.size(), real.size()); i++) {
            if (!said.get(i).equals(real.get(i))) {
                return i;
            }
        }
        return said.size() == real.size() ? -9 : Math.min(said.size(), real.size());
    }

    public int image() {
        image = new Image(copy(needs), new ArrayList<>(growths), new ArrayList<>(writers), law, err,
            new ArrayList<>(told), new ArrayList<>(goings), day, posted);
        return day;
    }

    public int on() {
        if (image == null) {
            return no(-3);
        }
        needs = copy(image.needs);
        growths = new ArrayList<>(image.growths);
        writers = new ArrayList<>(image.writers);
        law = image.law;
        err = image.err;
        told = new ArrayList<>(image.told);
        goings = new ArrayList<>(image.goings);
        day = image.day;
        posted = image.posted;
        return day;
    }

    public int count(int what) {
        int[] counts = {needs.size(), writers.size(), told.size(), goings.size(), day, row.size(),
            text.length(), posted};
        if (what >= 0 && what < counts.length) {
            return counts[what];
        }
        return what >= 11 && what <= 16 ? refusals.getOrDefault(10 - what, 0) : -9;
    }
}
