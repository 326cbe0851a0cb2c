import java.lang.reflect.Method;
import java.util.ArrayList;
import java.util.Arrays;
import java.util.List;
import java.util.Random;

/** Runs of calls drawn by seeds: each answer of the class against that of the Model. */
public final class ModelTest {
    private static final int CALLS = 512;
    private static final String[] NAMES = {"letter", "parish", "need", "writer", "law", "err", "score", "goes",
        "post", "day", "allNeed", "can", "who", "never", "before", "order", "forget", "met", "best", "greedy",
        "forty", "going", "think", "tell", "laws", "eye", "surest", "morning", "writes", "both", "year", "row",
        "judge", "image", "on", "count"};
    private static final int RUNS = 3 * NAMES.length;

    private final Random random;
    private final ToWhoNeeds real = new ToWhoNeeds();
    private final Model model = new Model();
    private final List<String> said = new ArrayList<>();
    private final int run;
    private int calls;

    private ModelTest(int run) {
        this.run = run;
        random = new Random(run);
    }

    public static void main(String[] args) throws Exception {
        int runs = args.length > 0 ? Integer.parseInt(args[0]) : RUNS;
        for (int run = 0; run < runs && !Check.isWrong(); run++) {
            new ModelTest(run).go();
        }
        Check.end();
    }

    private void go() throws Exception {
        int easy = random.nextInt(3);
        int befores = 0;
        if (random.nextInt(12) > 0) {
            settle(easy);
        }
        while (calls < CALLS - 1 && !Check.isWrong()) {
            if (calls < 400 && random.nextInt(40) == 0) {
                tellParish(text(random.nextInt(5), 0, easy), random.nextInt(3) == 0);
                continue;
            }
            String name = NAMES[random.nextInt(NAMES.length)];
            boolean rare = name.equals("forget") || name.equals("judge") || name.equals("on")
                || name.equals("letter") || name.equals("parish");
            // What is told so that it fits takes two calls.
            boolean isTooMuch = calls == CALLS - 2 && name.equals("going");
            if (name.equals("before") && ++befores > 1 || rare && random.nextInt(4) > 0 || isTooMuch) {
                continue;
            }
            call(name);
        }
        last(NAMES[run % NAMES.length]);
    }

    /** The 512th call, of each kind in turn. */
    private void last(String name) throws Exception {
        if (name.equals("going")) {
            both(name, someLetter(), person());
        } else {
            call(name);
        }
        Check.due("run " + run + ": calls", calls, CALLS);
    }

    /** Some PERSONS and WRITERS to begin with, so that few runs are empty. */
    private void settle(int easy) throws Exception {
        int persons = 1 + random.nextInt(6);
        for (int i = 0; i < persons; i++) {
            tellParish(text(1, 1, easy), false);
        }
        tellParish(text(random.nextInt(7), 2, easy), false);
    }

    private String text(int statements, int way, int easy) {
        StringBuilder text = new StringBuilder();
        for (int i = 0; i < statements; i++) {
            text.append(way == 1 ? person(easy) : way == 2 ? writerOrLetter(persons()) : statement(easy));
        }
        return text.toString();
    }

    private int persons() {
        return Math.max(1, model.count(0));
    }

    private void tellParish(String said, boolean spoilt) throws Exception {
        StringBuilder text = new StringBuilder(said);
        if (spoilt && text.length() > 0) {
            int at = random.nextInt(text.length());
            String signs = "pwlamth0123456789,+;x";
            switch (random.nextInt(3)) {
                case 0 -> text.deleteCharAt(at);
                case 1 -> text.insert(at, signs.charAt(random.nextInt(signs.length())));
                default -> text.setCharAt(at, signs.charAt(random.nextInt(signs.length())));
            }
        }
        for (int i = 0; i < text.length(); i++) {
            both("letter", text.charAt(i));
        }
        both("parish");
    }

    private String statement(int easy) {
        return random.nextInt(5) < 2 ? person(easy) : writerOrLetter(random.nextInt(4) == 0 ? 10 : persons());
    }

    private String person(int easy) {
        StringBuilder person = new StringBuilder("p");
        for (int good = 0; good < 4; good++) {
            int most = random.nextInt(40) == 0 ? 40 : easy == 0 ? 4 : easy == 1 ? 10 : 31;
            int need = random.nextInt(most);
            person.append(random.nextInt(6) == 0 && need < 10 ? "0" : "").append(need);
            person.append(good < 3 ? "," : "+");
        }
        return person.append(random.nextInt(random.nextBoolean() ? 3 : 10)).append(";").toString();
    }

    private String writerOrLetter(int persons) {
        if (random.nextInt(5) < 3) {
            return "w" + "pamth".charAt(random.nextInt(5)) + random.nextInt(persons) + ";";
        }
        int most = random.nextInt(20) == 0 ? 7 : random.nextBoolean() ? 6 : 3;
        return "l" + random.nextInt(most) + random.nextInt(most) + random.nextInt(most) + random.nextInt(most) + ";";
    }

    private void call(String name) throws Exception {
        switch (name) {
            case "need" -> both(name, person(), good());
            case "writer" -> both(name, writer(), upTo(2));
            case "law" -> both(name, upTo(4));
            case "err" -> both(name, upTo(50));
            case "score" -> both(name, person(), someLetter());
            case "goes", "post", "order" -> both(name, someLetter());
            case "can", "never", "laws", "surest" -> both(name, person());
            case "before" -> both(name, person(), upTo(1));
            case "met" -> both(name, upTo(model.count(2)), line());
            case "best" -> both(name, random.nextInt(8) - 1 - (random.nextInt(20) == 0 ? 1 : 0));
            case "forty" -> both(name, someLetter(), upTo(model.count(0)));
            case "going" -> telling();
            case "think" -> both(name, person(), good(), upTo(2));
            case "tell" -> both(name, person(), good());
            case "eye" -> both(name, person(), someLetter(), upTo(1));
            case "writes" -> both(name, writer());
            case "both" -> both(name, writer(), writer());
            case "year" -> both(name, upTo(30), random.nextInt());
            case "row" -> rowing();
            case "count" -> both(name, random.nextInt(20) - 1);
            case "letter" -> both(name, random.nextInt(50) == 0 ? random.nextInt(300) - 20 : 'p');
            default -> both(name);
        }
    }

    /** Mostly as it would go, so that something fits. */
    private void telling() throws Exception {
        int letter = someLetter();
        int first = both("goes", letter);
        if (random.nextInt(4) == 0) {
            first = person();
        }
        both("going", letter, first == -9 ? -1 : first);
    }

    /** Mostly as the told LETTERS would go, so that some ROWS are right. */
    private void rowing() throws Exception {
        int right = model.receiverOfTold(model.count(5));
        both("row", random.nextInt(8) == 0 ? random.nextInt(12) - 1 : right);
    }

    private int person() {
        return random.nextInt(25) == 0 ? random.nextInt(12) - 3 : random.nextInt(Math.max(1, model.count(0)));
    }

    private int good() {
        return random.nextInt(25) == 0 ? random.nextInt(8) - 2 : random.nextInt(4);
    }

    private int writer() {
        return random.nextInt(25) == 0 ? random.nextInt(8) - 2 : random.nextInt(Math.max(1, model.count(1)));
    }

    private int upTo(int most) {
        int way = random.nextInt(25);
        return way == 0 ? most + 1 : way == 1 ? -1 : random.nextInt(most + 1);
    }

    private int line() {
        int number = 0;
        List<Integer> digits = new ArrayList<>();
        for (int i = 0; i < Math.max(1, model.count(2)); i++) {
            digits.add(i);
        }
        java.util.Collections.shuffle(digits, random);
        for (int digit : digits) {
            number = number * 10 + digit;
        }
        int way = random.nextInt(24);
        return way < 2 ? random.nextInt(54321) : way == 2 ? -10 * random.nextInt(200) : way == 3 ? -number : number;
    }

    private int someLetter() {
        int letter = 0;
        int most = random.nextInt(3) == 0 ? 6 : 3;
        for (int place = 1; place <= 1000; place *= 10) {
            letter += random.nextBoolean() ? 0 : place * random.nextInt(most);
        }
        return random.nextInt(30) == 0 ? random.nextInt(12000) - 1000 : letter;
    }

    private int both(String name, int... args) throws Exception {
        Class<?>[] types = new Class<?>[args.length];
        Arrays.fill(types, int.class);
        Object[] given = Arrays.stream(args).boxed().toArray();
        Method ofReal = ToWhoNeeds.class.getMethod(name, types);
        Method ofModel = Model.class.getMethod(name, types);
        int want = (Integer) ofModel.invoke(model, given);
        int got = (Integer) ofReal.invoke(real, given);
        calls++;
        said.add(name + Arrays.toString(args) + " " + got);
        Check.due("run " + run + ": " + name + Arrays.toString(args), got, want);
        if (got != want) {
            System.out.println(said);
        }
        return got;
    }
}
