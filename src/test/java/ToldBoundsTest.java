/** What is told (promises 1 to 7, 17, 18, 23, 33, 35 to 37): the last that is taken, the first that is not. */
public final class ToldBoundsTest extends ByHand {
    private static final String SIX = "p1,0,0,0+0;p1,0,0,0+0;p1,0,0,0+0;p1,0,0,0+0;p1,0,0,0+0;p1,0,0,0+0;";

    private ToldBoundsTest() { }

    public static void main(String[] args) {
        newObject();
        nothingIsRefusedForBeingEmpty();
        lettersOfEachSign();
        sixtyFourLetters();
        sixtyFourRead();
        parishCutAnywhere();
        parishWithAnySign();
        needsToldUpTo30();
        growthOneDigit();
        amountsToldUpTo5();
        sixPersons();
        fourWriters();
        personOfAWriter();
        letterOfTheLatestWriter();
        firstFaultCounts();
        faultLeavesNothing();
        need();
        writer();
        law();
        err();
        order();
        going();
        row();
        image();
        onFromAnImage();
        onLeavesRoomAsThen();
        count();
        callsOfOneObject();
        Check.end();
    }

    private static void newObject() {
        promise = "1: Nobody, day 0";
        ToWhoNeeds x = new ToWhoNeeds();
        for (int what = 0; what <= 7; what++) {
            due(x.count(what), 0);
        }
        for (int what = 11; what <= 16; what++) {
            due(x.count(what), 0);
        }
        due(x.need(0, 0), -1);
        due(x.writer(0, 0), -1);
        due(x.on(), -3);
        due(new ToWhoNeeds().law(4), 0);
        due(new ToWhoNeeds().err(50), 0);
        // Two objects share nothing.
        ToWhoNeeds y = with("p1,2,3,4+5;wa0;");
        y.law(2);
        y.order(1);
        due(new ToWhoNeeds().count(0), 0);
        due(new ToWhoNeeds().law(0), 0);
    }

    private static void nothingIsRefusedForBeingEmpty() {
        promise = "1: nothing there yet";
        ToWhoNeeds x = new ToWhoNeeds();
        due(x.goes(5555), -9);
        due(x.post(5555), -9);
        due(x.allNeed(), 0);
        due(x.who(), 0);
        due(x.forget(), 0);
        due(x.met(0, 0), 0);
        due(x.best(-1), 0);
        due(x.best(0), -9);
        due(x.greedy(), 0);
        due(x.forty(1, 0), 0);
        due(x.morning(), 0);
        due(x.year(1, 0), 0);
        due(x.year(30, -1), 0);
        due(x.judge(), -9);
        due(x.parish(), -1000);
        due(x.image(), 0);
        due(x.on(), 0);
        due(x.day(), 0);
        due(x.on(), 0);
        due(x.count(8), -9);
        due(refusals(x), 0);
    }

    private static void lettersOfEachSign() {
        promise = "2: a letter (0 .. 255) comes: how many there are; -4; -6 (255)";
        for (int c = 0; c <= 255; c++) {
            ToWhoNeeds x = new ToWhoNeeds();
            due(x.letter(c), 1);
            due(x.letter(c), 2);
        }
        ToWhoNeeds x = new ToWhoNeeds();
        due(x.letter('w'), 1);
        due(x.letter(-1), -4);
        due(x.letter(-256), -4);
        due(x.letter(256), -6);
        due(x.letter(256 + 'p'), -6);
        due(x.letter('p'), 2);
        due(x.letter(0), 3);
        // What was refused is not in the text.
        due(x.parish(), -1002);
    }

    private static void sixtyFourLetters() {
        promise = "2: -6 (64, too)";
        ToWhoNeeds x = new ToWhoNeeds();
        for (int i = 1; i <= 63; i++) {
            due(x.letter('p'), i);
        }
        due(x.letter(255), 64);
        for (int c = 0; c <= 255; c++) {
            due(x.letter(c), -6);
        }
        due(x.letter(-1), -4);
        due(x.letter(256), -6);
        due(x.count(6), 64);
        due(x.count(14), 1);
        due(x.count(16), 257);
        due(x.parish(), -1001);
        // And are no more: there is room again.
        due(x.count(6), 0);
        due(x.letter('p'), 1);
    }

    private static void sixtyFourRead() {
        promise = "3: 64 letters";
        String ten = "l0000;l1111;l2222;l3333;l4444;l5555;l0000;l1111;l2222;";
        ToWhoNeeds x = with("p1,0,0,0+0;");
        due(("wa0;" + ten + "l5432;").length(), 64);
        due(tell(x, "wa0;" + ten + "l5432;"), 11);
        due(x.writer(0, 2), 2345);
        due(tell(x, "wa0;" + ten + "l5436;"), -2058);
        due(tell(x, "wa0;" + ten + "l54321"), -1063);
        due(tell(x, "wa0;" + ten + "l5432"), -1063);
        due(tell(x, "l0001;" + ten + "wa0;"), 11);
        due(tell(x, "l0001;" + ten + "wa1;"), -2060);
        due(tell(x, "l0001;" + ten + "p1,2"), -1064);
        due(x.count(1), 2);
        // As many STATEMENTS as 64 letters can have.
        due(tell(x, "wp0;wp0;l0000;l0000;"), 4);
        due(tell(new ToWhoNeeds(), "wp0;".repeat(16)), -2000);
        due(tell(with("p0,0,0,0+0;"), "wp0;".repeat(16)), -2016);
        due(tell(x, "l0000;".repeat(10)), 10);
        due(tell(x, ";".repeat(64)), -1000);
    }

    /** A cut text lacks something at its end, unless a STATEMENT ends there. */
    private static void parishCutAnywhere() {
        promise = "3: the end, if something lacks; at least one STATEMENT";
        String text = "p1,20,3,04+5;wa0;l0123;p00,30,00,0+9;wh1;";
        int statements = 0;
        due(told(""), -1000);
        for (int end = 1; end <= text.length(); end++) {
            boolean isWhole = text.charAt(end - 1) == ';';
            statements += isWhole ? 1 : 0;
            Check.due(promise + " " + text.substring(0, end), told(text.substring(0, end)),
                isWhole ? statements : -1000 - end);
        }
    }

    /** What may stand: s a STATEMENT's first, k a KIND, d a digit, c a digit or a comma, q a digit or a plus. */
    private static void parishWithAnySign() {
        promise = "3: the first letter with which no PARISH can go on";
        String text = "p1,20,3,04+5;wa0;l0123;";
        String mays = "sdcdc,dcdq+d;skd;sdddd;";
        due(mays.length(), text.length());
        for (int place = 0; place < text.length(); place++) {
            for (int sign = 0; sign <= 255; sign++) {
                String cut = text.substring(0, place) + (char) sign;
                boolean fits = may(mays.charAt(place), sign);
                int due = !fits ? -1000 - place : sign == ';' ? statementsIn(cut) : -1001 - place;
                Check.due(promise + " " + cut + " (sign " + sign + ")", told(cut), due);
            }
        }
    }

    private static int statementsIn(String text) {
        return (int) text.chars().filter(c -> c == ';').count();
    }

    private static boolean may(char what, int sign) {
        boolean isDigit = sign >= '0' && sign <= '9';
        switch (what) {
            case 's':
                return "pwl".indexOf(sign) >= 0;
            case 'k':
                return "pamth".indexOf(sign) >= 0;
            case 'd':
                return isDigit;
            case 'c':
                return isDigit || sign == ',';
            case 'q':
                return isDigit || sign == '+';
            default:
                return sign == what;
        }
    }

    private static void needsToldUpTo30() {
        promise = "3: NEEDS (1 or 2 digits each, 0 .. 30), numbers may begin with 0";
        for (int good = 0; good < 4; good++) {
            for (int value = 0; value <= 99; value++) {
                StringBuilder text = new StringBuilder("p");
                for (int g = 0; g < 4; g++) {
                    text.append(g == good ? value : g).append(g < 3 ? ',' : '+');
                }
                ToWhoNeeds x = with("p7,7,7,7+0;");
                int answer = tell(x, text.append("0;").toString());
                Check.due(promise + " " + text, answer, value <= 30 ? 1 : -2000);
                due(x.need(1, good), value <= 30 ? value : -1);
                due(x.count(0), value <= 30 ? 2 : 1);
            }
        }
        ToWhoNeeds x = with("p00,01,09,30+0;");
        due(x.need(0, 0), 0);
        due(x.need(0, 1), 1);
        due(x.need(0, 2), 9);
        due(x.need(0, 3), 30);
        due(told("p030,0,0,0+0;"), -1003);
        due(told("p0,0,0,000+0;"), -1009);
    }

    private static void growthOneDigit() {
        promise = "3: GROWTH (a digit)";
        for (int growth = 0; growth <= 9; growth++) {
            due(with("p0,0,0,0+" + growth + ";").day(), 4 * growth);
        }
        due(told("p0,0,0,0+10;"), -1010);
        due(told("p0,0,0,0+;"), -1009);
        due(told("p0,0,0,0;"), -1008);
    }

    private static void amountsToldUpTo5() {
        promise = "3: AMOUNTS (digits, 0 .. 5)";
        int[] unit = {1, 10, 100, 1000};
        for (int good = 0; good < 4; good++) {
            for (int amount = 0; amount <= 9; amount++) {
                StringBuilder text = new StringBuilder("l1111;");
                text.setCharAt(1 + good, (char) ('0' + amount));
                ToWhoNeeds x = with("p0,0,0,0+0;wp0;l2222;");
                Check.due(promise + " " + text, tell(x, text.toString()), amount <= 5 ? 1 : -2000);
                due(x.writer(0, 2), amount <= 5 ? 1111 + (amount - 1) * unit[good] : 2222);
            }
        }
    }

    private static void sixPersons() {
        promise = "3: a PERSON more (6 at most)";
        ToWhoNeeds x = with(SIX);
        due(x.count(0), 6);
        due(x.need(5, 0), 1);
        due(tell(x, "p1,0,0,0+0;"), -2000);
        due(tell(x, "wp5;p1,0,0,0+0;"), -2004);
        due(x.count(0), 6);
        due(x.count(1), 0);
        due(x.need(6, 0), -1);
        due(x.allNeed(), 6);
        // Five and two in one text: the second has no room, and the first does not come either.
        ToWhoNeeds y = with(SIX.substring(0, 55));
        due(y.count(0), 5);
        due(tell(y, "p1,0,0,0+0;p1,0,0,0+0;"), -2011);
        due(y.count(0), 5);
        due(tell(y, "p2,0,0,0+0;"), 1);
        due(y.need(5, 0), 2);
        due(tell(y, "p2,0,0,0+0;"), -2000);
    }

    private static void fourWriters() {
        promise = "3: a WRITER more (4 at most)";
        ToWhoNeeds x = with("p1,0,0,0+0;wp0;wa0;wm0;wt0;l0005;");
        due(x.count(1), 4);
        due(x.writer(3, 0), 3);
        due(x.writer(3, 2), 5000);
        due(tell(x, "wh0;"), -2000);
        due(tell(x, "l1000;wh0;l0000;"), -2006);
        due(x.count(1), 4);
        due(x.writer(4, 0), -1);
        due(x.writer(3, 2), 5000);
        due(tell(x, "l1000;"), 1);
        due(x.writer(3, 2), 1);
        ToWhoNeeds y = with("p1,0,0,0+0;wp0;wa0;wm0;");
        due(tell(y, "wt0;wh0;"), -2004);
        due(y.count(1), 3);
        due(tell(y, "wh0;"), 1);
        due(y.writer(3, 0), 4);
        for (int kind = 0; kind < 5; kind++) {
            due(with("p1,0,0,0+0;w" + "pamth".charAt(kind) + "0;").writer(0, 0), kind);
        }
    }

    private static void personOfAWriter() {
        promise = "3: a PERSON that is not there ahead of it";
        for (int persons = 0; persons <= 6; persons++) {
            for (int digit = 0; digit <= 9; digit++) {
                ToWhoNeeds x = with(SIX.substring(0, 11 * persons));
                due(tell(x, "wa" + digit + ";"), digit < persons ? 1 : -2000);
                due(x.writer(0, 1), digit < persons ? digit : -1);
            }
        }
        // Ahead in the same text he is there, behind it not yet.
        due(told("p1,0,0,0+0;wa0;"), 2);
        due(told("wa0;p1,0,0,0+0;"), -2000);
        due(told("p1,0,0,0+0;wa1;p1,0,0,0+0;"), -2011);
        due(told("p1,0,0,0+0;p1,0,0,0+0;wa1;"), 3);
    }

    private static void letterOfTheLatestWriter() {
        promise = "3: the LETTER of the latest WRITER (told again it takes the place; 0000 at first), no WRITER";
        due(told("l0000;"), -2000);
        due(told("p1,0,0,0+0;l0000;"), -2011);
        due(told("p1,0,0,0+0;l0000;wp0;"), -2011);
        ToWhoNeeds x = with("p1,0,0,0+0;wp0;");
        due(x.writer(0, 2), 0);
        due(tell(x, "l1234;"), 1);
        due(x.writer(0, 2), 4321);
        due(tell(x, "l5000;wa0;"), 2);
        due(x.writer(0, 2), 5);
        due(x.writer(1, 2), 0);
        due(tell(x, "l1000;l0001;l0100;"), 3);
        due(x.writer(0, 2), 5);
        due(x.writer(1, 2), 10);
        due(tell(x, "l0000;"), 1);
        due(x.writer(1, 2), 0);
        due(x.count(1), 2);
    }

    private static void firstFaultCounts() {
        promise = "3: FAULT, kind 1, else kind 2, of the first STATEMENT that is not as it must be";
        due(told("p31,0,0,0+0;wa9;l6000;"), -2000);
        due(told("p30,0,0,0+0;wa9;l6000;"), -2012);
        due(told("p30,0,0,0+0;wa0;l6000;"), -2016);
        due(told("p30,0,0,0+0;wa0;l5000;"), 3);
        // Kind 1 comes ahead of each of kind 2, wherever it is.
        due(told("p31,0,0,0+0;wa9;l6000"), -1021);
        due(told("l0000;x"), -1006);
        due(told("l0000;;"), -1006);
        due(told("wa9;w"), -1005);
        // A STATEMENT behind all ahead of it: what one with a FAULT would have told is not looked at.
        due(told("p0,0,0,31+0;wa0;"), -2000);
        due(told("wa0;l0000;"), -2000);
    }

    private static void faultLeavesNothing() {
        promise = "3: without FAULT all of it comes, with one nothing (nothing is counted)";
        ToWhoNeeds x = with("p1,2,3,4+0;wa0;l1000;");
        due(tell(x, "p5,5,5,5+5;wm1;l0300;l0600;"), -2021);
        due(tell(x, "p5,5,5,5+5;wm1;l0300;l030;"), -1025);
        due(tell(x, ""), -1000);
        due(x.count(0), 1);
        due(x.count(1), 1);
        due(x.count(6), 0);
        due(x.writer(0, 2), 1);
        due(x.allNeed(), 10);
        due(x.day(), 10);
        due(refusals(x), 0);
        // The letters are no more: the next text begins anew.
        due(tell(x, "p1,2"), -1004);
        due(tell(x, "p1,2,3,4+0;"), 1);
        due(x.count(0), 2);
    }

    private static void need() {
        promise = "4: NEED, -1 either (GOODS are 0 .. 3)";
        ToWhoNeeds x = with("p0,1,2,3+0;p30,29,28,27+0;");
        for (int good = 0; good <= 3; good++) {
            due(x.need(0, good), good);
            due(x.need(1, good), 30 - good);
        }
        due(x.need(1, 4), -1);
        due(x.need(0, 4), -1);
        due(x.need(1, -1), -1);
        due(x.need(2, 0), -1);
        due(x.need(2, 3), -1);
        due(x.need(-1, 3), -1);
        due(x.count(11), 6);
        due(with(SIX).need(5, 3), 0);
        due(with(SIX).need(6, 3), -1);
    }

    private static void writer() {
        promise = "5: of a WRITER 0, 1, 2; -1; -2";
        ToWhoNeeds x = with("p1,0,0,0+0;p1,0,0,0+0;wt1;l5432;");
        due(x.writer(0, 0), 3);
        due(x.writer(0, 1), 1);
        due(x.writer(0, 2), 2345);
        due(x.writer(0, 3), -2);
        due(x.writer(0, -1), -2);
        due(x.writer(1, 0), -1);
        due(x.writer(-1, 0), -1);
        due(x.writer(1, 3), -1);
        due(x.writer(-1, -1), -1);
        due(x.count(11), 4);
        due(x.count(12), 2);
    }

    private static void law() {
        promise = "6: the LAW: what it was; -2 (0 at first)";
        ToWhoNeeds x = new ToWhoNeeds();
        for (int v = 0; v <= 4; v++) {
            due(x.law(v), Math.max(0, v - 1));
        }
        due(x.law(5), -2);
        due(x.law(-1), -2);
        due(x.law(Integer.MAX_VALUE), -2);
        due(x.law(Integer.MIN_VALUE), -2);
        due(x.law(0), 4);
        due(x.count(12), 4);
    }

    private static void err() {
        promise = "7: ERR (0 .. 50 hundredths; 0): what it was; -4; -6 50";
        ToWhoNeeds x = new ToWhoNeeds();
        for (int err = 0; err <= 50; err++) {
            due(x.err(err), Math.max(0, err - 1));
        }
        due(x.err(51), -6);
        due(x.err(-1), -4);
        due(x.err(Integer.MAX_VALUE), -6);
        due(x.err(Integer.MIN_VALUE), -4);
        due(x.err(0), 50);
        due(x.count(14), 2);
        due(x.count(16), 2);
    }

    private static void order() {
        promise = "17: a told LETTER more: how many; -1; -6 5. 18: how many there were";
        ToWhoNeeds x = new ToWhoNeeds();
        int[] letters = {0, 5, 50, 5000, 5555};
        for (int i = 0; i < 5; i++) {
            due(x.order(letters[i]), i + 1);
        }
        due(x.order(0), -6);
        due(x.order(5556), -1);
        due(x.order(-1), -1);
        due(x.count(2), 5);
        due(x.forget(), 5);
        due(x.count(2), 0);
        due(x.forget(), 0);
        due(x.order(6), -1);
        due(x.order(5555), 1);
        due(x.forget(), 1);
    }

    private static void going() {
        promise = "23: a told GOING more: how many; -1 either (PERSON -1: to none); -6 6";
        ToWhoNeeds x = with("p1,0,0,0+0;p1,0,0,0+0;");
        due(x.going(0, -2), -1);
        due(x.going(0, -9), -1);
        due(x.going(0, 2), -1);
        due(x.going(6, 0), -1);
        due(x.going(-1, -1), -1);
        due(x.going(10000, 1), -1);
        due(x.going(0, -1), 1);
        due(x.going(5555, 0), 2);
        due(x.going(5555, 1), 3);
        due(x.going(0, 1), 4);
        due(x.going(0, 1), 5);
        due(x.going(0, -1), 6);
        due(x.going(0, -1), -6);
        due(x.going(0, 0), -6);
        due(x.going(0, 2), -1);
        due(x.going(6, -1), -1);
        due(x.count(3), 6);
        // Nobody is there: to none it can have gone.
        due(new ToWhoNeeds().going(5555, 0), -1);
        due(new ToWhoNeeds().going(5555, -1), 1);
        due(with(SIX).going(0, 5), 1);
        due(with(SIX).going(0, 6), -1);
    }

    private static void row() {
        promise = "33: a PERSON more of the ROW (0 .. 9): how many; -4; -6 (9; 8, too)";
        ToWhoNeeds x = new ToWhoNeeds();
        due(x.row(-1), -4);
        due(x.row(10), -6);
        for (int i = 1; i <= 8; i++) {
            due(x.row(10 - i), i);
        }
        for (int v = 0; v <= 10; v++) {
            due(x.row(v), -6);
        }
        due(x.row(-1), -4);
        due(x.count(5), 8);
        due(x.count(14), 2);
        due(x.count(16), 12);
        due(x.judge(), 0);
        due(x.count(5), 0);
        due(x.row(9), 1);
        due(x.row(0), 2);
    }

    private static void image() {
        promise = "35: THE IMAGE is taken: the day. 36: ON from it: the day; -3 there is none";
        ToWhoNeeds x = new ToWhoNeeds();
        due(x.on(), -3);
        due(x.on(), -3);
        due(x.count(13), 2);
        due(x.day(), 0);
        due(x.image(), 1);
        due(x.day(), 0);
        due(x.day(), 0);
        due(x.on(), 1);
        due(x.count(4), 1);
        due(x.day(), 0);
        due(x.image(), 2);
        due(x.on(), 2);
        // The one that was taken last.
        due(x.day(), 0);
        due(x.on(), 2);
        due(x.count(13), 2);
    }

    private static void onFromAnImage() {
        promise = "36: all is as then";
        ToWhoNeeds x = with("p5,6,7,8+1;wa0;l1000;");
        x.law(2);
        x.err(20);
        x.order(1);
        x.going(1, 0);
        x.image();
        due(tell(x, "p9,9,9,9+9;p9,9,9,9+9;wm2;l0005;wp0;wp0;"), 6);
        due(x.going(1, -1), 2);
        due(x.think(0, 0, 0), -9);
        x.day();
        x.post(5);
        x.on();
        for (int good = 0; good < 4; good++) {
            due(x.need(0, good), 5 + good);
        }
        due(x.need(1, 0), -1);
        due(x.writer(0, 0), 1);
        due(x.writer(0, 1), 0);
        due(x.writer(0, 2), 1);
        due(x.writer(1, 0), -1);
        due(x.think(0, 0, 2), 30);
        due(x.day(), 30);
        due(x.law(0), 2);
        due(x.err(0), 20);
        // REFUSALS are not in it.
        x.on();
        due(x.count(11), 2);
        // Told GOINGS that are gone leave nothing of themselves, neither LETTER nor PERSON.
        ToWhoNeeds w = with("p5,0,0,0+0;p3,0,0,0+0;");
        w.image();
        w.going(10, -1);
        w.on();
        due(w.going(1, 1), 1);
        due(w.think(0, 0, 2), 3);
        // On to an image with more than there is now.
        ToWhoNeeds y = with("p5,6,7,8+1;wa0;l1000;");
        due(y.image(), 0);
        y.post(5555);
        due(tell(y, "l5555;"), 1);
        due(y.on(), 0);
        due(y.allNeed(), 26);
        due(y.writer(0, 2), 1);
        // THE IMAGE of a new object: nobody is there any more.
        ToWhoNeeds z = new ToWhoNeeds();
        z.image();
        due(tell(z, "p5,6,7,8+1;wa0;l1000;"), 3);
        z.going(1, 0);
        z.order(1);
        due(z.on(), 0);
        for (int what = 0; what <= 7; what++) {
            due(z.count(what), 0);
        }
        due(z.allNeed(), 0);
        due(z.day(), 0);
        due(z.best(-1), 0);
        due(tell(z, "wa0;"), -2000);
        due(tell(z, "l0000;"), -2000);
    }

    private static void onLeavesRoomAsThen() {
        promise = "36: room as then";
        ToWhoNeeds x = with(SIX, "wp0;wp0;wp0;wp0;");
        for (int i = 0; i < 6; i++) {
            x.going(1, 0);
        }
        for (int i = 0; i < 5; i++) {
            x.order(i);
        }
        x.image();
        due(x.forget(), 5);
        due(x.order(5), 1);
        x.on();
        due(x.order(0), -6);
        due(x.going(1, 0), -6);
        due(tell(x, "p0,0,0,0+0;"), -2000);
        due(tell(x, "wp0;"), -2000);
        due(x.count(2), 5);
        ToWhoNeeds y = new ToWhoNeeds();
        y.image();
        due(tell(y, SIX.substring(0, 55)), 5);
        due(tell(y, SIX.substring(55)), 1);
        y.on();
        due(tell(y, SIX.substring(0, 55)), 5);
        due(tell(y, SIX.substring(55)), 1);
        due(tell(y, SIX.substring(55)), -2000);
    }

    private static void count() {
        promise = "37: -9 for another what";
        ToWhoNeeds x = with("p1,0,0,0+0;");
        for (int what : new int[] {-1, -11, 8, 9, 10, 17, 18, 100, Integer.MIN_VALUE, Integer.MAX_VALUE}) {
            due(x.count(what), -9);
        }
        due(refusals(x), 0);
        promise = "37: 7 POSTED so far";
        due(x.post(0), -9);
        due(x.count(7), 1);
        due(x.post(6), -1);
        due(x.post(1), 0);
        due(x.count(7), 2);
        due(x.goes(1), -9);
        due(x.year(30, 1), 0);
        due(x.count(7), 2);
        promise = "37: 4 the day";
        due(x.count(4), 0);
        for (int i = 1; i <= 40; i++) {
            x.day();
            due(x.count(4), i);
        }
        x.morning();
        due(x.count(4), 40);
        promise = "37: 11 .. 16 REFUSALS -1 .. -6";
        ToWhoNeeds y = new ToWhoNeeds();
        int[] times = {3, 2, 4, 1, 0, 5};
        for (int i = 0; i < 5; i++) {
            due(i < 3 ? y.need(0, 0) : -1, -1);
            due(i < 2 ? y.law(5) : -2, -2);
            due(i < 4 ? y.on() : -3, -3);
            due(i < 1 ? y.err(-1) : -4, -4);
            due(y.err(51), -6);
        }
        for (int number = 1; number <= 6; number++) {
            due(y.count(10 + number), times[number - 1]);
        }
    }

    private static void callsOfOneObject() {
        promise = "What it is: at most 512 calls";
        ToWhoNeeds days = new ToWhoNeeds();
        ToWhoNeeds posted = new ToWhoNeeds();
        ToWhoNeeds refused = new ToWhoNeeds();
        for (int call = 1; call <= 511; call++) {
            days.day();
            posted.post(5555);
            refused.need(0, 0);
        }
        due(days.count(4), 511);
        due(posted.count(7), 511);
        due(refused.count(11), 511);
    }
}
