/** The sentences of the document about letters, STATEMENTS and FAULTS that name a boundary, on both of its sides. */
public final class TellingBoundaryTest extends Checks {
    private static final String KINDS = "mlsdro";
    /** One of each STATEMENT, as it must be where there is a MINISTER. */
    private static final String[] STATEMENTS = {"c129;", "k12;", "mo9;", "b24;", "g00;", "w20;", "x0;", "s60;"};
    private static final String SHAPES = "c999; k99; mK9; b99; g99; w99; x9; s99;";

    private static String two(int number) {
        return "" + number / 10 + number % 10;
    }

    /** A kingdom of so many MINISTERS, and what it answers to being told. */
    private static int answerOf(int ministers, String text) {
        SovereignInBarrow x = new SovereignInBarrow();
        if (ministers > 0) {
            tellAll(x, "mm0;".repeat(ministers));
        }
        return told(x, text);
    }

    private static void atMost96Letters() {
        about = "A KINGDOM is told in letters, one by one (96 at most)";
        String text = "x0;".repeat(31);
        SovereignInBarrow x = kingdomOf("mm0;");
        letters(x, text);
        dueAll("94, 95, 96", all(x.letter('x'), x.letter('0'), x.letter(';')), 94, 95, 96);
        dueAll("the 97th", all(x.letter('x'), x.count(7), x.count(16)), -6, 96, 1);
        dueAll("all 96 of them", all(x.kingdom(), x.count(7)), 32, 0);
        dueAll("room again", all(x.letter('x'), x.count(7)), 1, 1);
        about = "A letter (0 .. 255) comes";
        SovereignInBarrow y = new SovereignInBarrow();
        dueAll("letter", all(y.letter(-1), y.letter(0), y.letter(255), y.letter(256), y.count(7)), -4, 1, 2, -6, 2);
        about = "The letters become a KINGDOM, and are no more";
        SovereignInBarrow z = new SovereignInBarrow();
        dueAll("behind one", all(told(z, "w06;"), z.count(7), z.kingdom()), 1, 0, -1000);
        dueAll("behind a FAULT of kind 1", all(told(z, "w06"), z.count(7), z.kingdom()), -1003, 0, -1000);
        dueAll("behind a FAULT of kind 2", all(told(z, "w21;"), z.count(7), z.kingdom()), -2000, 0, -1000);
        about = "the FAULT (nothing is counted)";
        dueAll("REFUSALS", all(z.count(11), z.count(12), z.count(13), z.count(14), z.count(15), z.count(16)), 0, 0, 0, 0, 0, 0);
    }

    private static void numbersOfTwoDigits() {
        for (int number = 0; number < 100; number++) {
            boolean cell = number <= 24;
            about = "\"c\" a CELL (2 digits), HEIGHT (a digit)";
            due("c" + two(number) + "0;", answerOf(0, "c" + two(number) + "0;"), cell ? 1 : -2000);
            due("c" + two(number) + "9;", answerOf(0, "c" + two(number) + "9;"), cell ? 1 : -2000);
            about = "\"k\" a CELL (2 digits)";
            due("k" + two(number), answerOf(0, "k" + two(number) + ";"), cell ? 1 : -2000);
            about = "\"b\" a CELL (2 digits)";
            due("b" + two(number), answerOf(0, "b" + two(number) + ";"), cell ? 1 : -2000);
            about = "\"g\" a GOAL (2 digits)";
            due("g" + two(number), answerOf(0, "g" + two(number) + ";"), cell ? 1 : -2000);
            about = "\"w\" WEIGHT (2 digits)";
            due("w" + two(number), answerOf(0, "w" + two(number) + ";"), number <= 20 ? 1 : -2000);
            about = "\"s\" STEPS (2 digits, 1 .. 60)";
            due("s" + two(number), answerOf(0, "s" + two(number) + ";"), number >= 1 && number <= 60 ? 1 : -2000);
        }
    }

    private static void whatTheyDo() {
        SovereignInBarrow x = kingdomOf("c009;c249;c120;");
        about = "\"c\" a CELL (2 digits), HEIGHT (a digit)";
        dueAll("HEIGHTS", all(x.cell(0, 0), x.cell(24, 0), x.cell(12, 0)), 9, 9, 0);
        tellAll(x, "c000;c241;");
        dueAll("HEIGHTS", all(x.cell(0, 0), x.cell(24, 0), x.cell(1, 0), x.cell(23, 0)), 0, 1, 0, 0);
        about = "\"k\" a CELL (2 digits): a KERB, or, told again, none";
        SovereignInBarrow k = kingdomOf("k00;k24;");
        dueAll("KERBS", all(k.cell(0, 1), k.cell(24, 1), k.far(2)), 1, 1, 2);
        dueAll("again", all(told(k, "k24;"), k.cell(24, 1), told(k, "k24;k24;k24;"), k.cell(24, 1)), 1, 0, 3, 1);
        about = "\"b\" a CELL (2 digits): THE BARROW is there; \"g\" a GOAL (2 digits); \"w\" WEIGHT (2 digits)";
        dueAll("the greatest", all(told(k, "b24;g24;w20;"), k.count(2), k.count(3), k.count(4)), 3, 24, 24, 20);
        dueAll("the least", all(told(k, "b00;g00;w00;"), k.count(2), k.count(3), k.count(4)), 3, 0, 0, 0);
        about = "\"x\" a MINISTER (a digit): he steps back: he is last in THE ROW";
        SovereignInBarrow row = kingdomOf("mm0;mm1;mm2;");
        dueAll("the first", all(told(row, "x0;"), row.minister(0, 3), row.minister(1, 3), row.minister(2, 3)), 1, 2, 0, 1);
        dueAll("the last", all(told(row, "x0;"), row.minister(0, 3), row.minister(1, 3), row.minister(2, 3)), 1, 2, 0, 1);
        dueAll("between", all(told(row, "x2;"), row.minister(0, 3), row.minister(1, 3), row.minister(2, 3)), 1, 1, 0, 2);
        about = "\"s\" STEPS (2 digits, 1 .. 60): they go by";
        SovereignInBarrow s = kingdomOf("mm0;w20;s01;");
        dueAll("1", all(s.count(1), s.count(5)), 1, 1);
        dueAll("60", all(told(s, "s60;"), s.count(1), s.count(5)), 1, 61, 61);
        about = "STATEMENTS, each with \";\" behind (in the order in which they are told)";
        dueAll("a KERB before STEPS, and after", all(kingdomOf("mm0;k05;s01;").count(2), kingdomOf("mm0;s01;k05;").count(2)), 0, 5);
    }

    private static void kindsAndFigures() {
        about = "\"m\" a letter of a KIND, FIGURE (a digit): a MINISTER more";
        for (int letter = 0; letter < 256; letter++) {
            int kind = KINDS.indexOf((char) letter);
            SovereignInBarrow x = new SovereignInBarrow();
            due("letter " + letter + " for a KIND", told(x, "m" + (char) letter + "0;"), kind >= 0 ? 1 : -1001);
            due("KIND, or nobody", x.minister(0, 0), kind >= 0 ? kind : -1);
        }
        for (int figure = 0; figure < 10; figure++) {
            due("FIGURE", kingdomOf("ml" + figure + ";").minister(0, 1), figure);
        }
        about = "MINISTERS 0 .. as they come (5 at most)";
        for (int n = 0; n <= 5; n++) {
            for (int more = 1; more <= 6; more++) {
                int place = 4 * (5 - n);
                due(n + " and " + more + " more", answerOf(n, "mm0;".repeat(more)), n + more <= 5 ? more : -2000 - place);
            }
        }
        SovereignInBarrow x = kingdomOf("mm0;ml1;ms2;md3;mo4;");
        dueAll("no room for more", all(x.count(0), x.minister(4, 0), told(x, "mm0;"), x.count(0), x.minister(5, 0)), 5, 5, -2000, 5, -1);
        about = "THE ROW of them: who comes last is last; the first pushes";
        SovereignInBarrow row = kingdomOf("mm0;mr0;x0;ms0;");
        dueAll("places", all(row.minister(0, 3), row.minister(1, 3), row.minister(2, 3), row.then(0, 1)), 1, 0, 2, 1);
        about = "FALLS (0 .. 99; 0 at first)";
        SovereignInBarrow late = kingdomOf("mm0;w20;s05;mm0;");
        dueAll("of one who comes", all(late.minister(0, 2), late.minister(1, 2)), 5, 0);
    }

    private static void theFirstLetterThatFits() {
        about = "FAULT: kind 1 the place of the first letter with which no KINGDOM can go on";
        for (int letter = 0; letter < 256; letter++) {
            boolean begins = "ckmbgwxs".indexOf((char) letter) >= 0;
            due("letter " + letter, answerOf(0, "" + (char) letter), begins ? -1001 : -1000);
            due("letter " + letter + " behind a STATEMENT", answerOf(0, "w20;" + (char) letter), begins ? -1005 : -1004);
        }
        String[] shapes = SHAPES.split(" ");
        for (int i = 0; i < STATEMENTS.length; i++) {
            for (int place = 1; place < STATEMENTS[i].length(); place++) {
                otherLetters(STATEMENTS[i], place, shapes[i].charAt(place));
            }
        }
    }

    /** Each letter there is in that place of a STATEMENT, alone and behind another. */
    private static void otherLetters(String statement, int place, char shape) {
        for (int letter = 0; letter < 256; letter++) {
            boolean digit = letter >= '0' && letter <= '9';
            boolean fits = shape == '9' ? digit : shape == 'K' ? KINDS.indexOf((char) letter) >= 0 : letter == shape;
            String text = statement.substring(0, place) + (char) letter + statement.substring(place + 1);
            int alone = answerOf(1, text);
            int behind = answerOf(1, "w00;" + text);
            due("letter " + letter + " in place " + place + " of " + statement, alone <= -1000 && alone > -2000 ? alone : 0,
                    fits ? 0 : -1000 - place);
            due("letter " + letter + " in place " + place + " of " + statement + " behind another",
                    behind <= -1000 && behind > -2000 ? behind : 0, fits ? 0 : -1004 - place);
        }
    }

    private static void theEnd() {
        about = "(the end, if something lacks)";
        for (String statement : STATEMENTS) {
            due(statement, answerOf(1, statement), 1);
            for (int n = 0; n < statement.length(); n++) {
                due("'" + statement.substring(0, n) + "'", answerOf(1, statement.substring(0, n)), -1000 - n);
                due("w20; and '" + statement.substring(0, n) + "'", answerOf(1, "w20;" + statement.substring(0, n)),
                        n == 0 ? 1 : -1004 - n);
            }
        }
        String many = "x0;".repeat(30);
        dueAll("91 .. 96 letters", all(answerOf(1, many + "s"), answerOf(1, many + "c0"), answerOf(1, many + "x0;"),
                answerOf(1, many + "x0;c"), answerOf(1, many + "c1234"), answerOf(1, many + "x0;x0"), answerOf(1, many + "x0;x0;")),
                -1091, -1092, 31, -1094, -1094, -1095, 32);
        due("the end of 96", answerOf(1, many + "x0;c00"), -1096);
        about = "At least one STATEMENT";
        dueAll("none, one, two", all(answerOf(1, ""), answerOf(1, "x0;"), answerOf(1, "x0;x0;")), -1000, 1, 2);
        due("none but a sign", answerOf(1, ";"), -1000);
    }

    private static void kindTwo() {
        about = "else kind 2 the place of the first letter of the first STATEMENT that is not as it must be";
        dueAll("kind 1 comes before kind 2", all(answerOf(0, "w21;w2"), answerOf(0, "w21;w20;"), answerOf(0, "w20;w21;")),
                -1006, -2000, -2004);
        dueAll("the first of several", all(answerOf(0, "w20;k25;c250;s00;"), answerOf(0, "w20;k24;c250;s00;"),
                answerOf(0, "w20;k24;c240;s00;"), answerOf(0, "w20;k24;c240;s01;")), -2004, -2008, -2013, 4);
        about = "no such MINISTER so far";
        for (int n = 0; n <= 5; n++) {
            for (int minister = 0; minister < 10; minister++) {
                due("x" + minister + " of " + n, answerOf(n, "x" + minister + ";"), minister < n ? 1 : -2000);
            }
        }
        dueAll("one who comes before, and behind", all(answerOf(1, "mm0;x1;"), answerOf(1, "x1;mm0;"), answerOf(1, "mm0;x2;")),
                2, -2000, -2004);
        about = "no room for more";
        dueAll("the sixth is told first of what is wrong", all(answerOf(4, "mm0;mm0;x5;"), answerOf(4, "mm0;x4;x5;")), -2004, -2007);
    }

    private static void stepAbove999() {
        about = "STEP above 999";
        int[] before = {938, 939, 940, 989, 998, 999};
        int[] more = {1, 2, 9, 10, 11, 59, 60};
        for (int step : before) {
            for (int n : more) {
                SovereignInBarrow x = atStep(step);
                boolean fits = step + n <= 999;
                due("s" + two(n) + " at " + step, told(x, "s" + two(n) + ";"), fits ? 1 : -2000);
                due("STEP", x.count(1), fits ? step + n : step);
            }
        }
        dueAll("one by one", all(told(atStep(997), "s01;s01;"), told(atStep(997), "s01;s01;s01;"), told(atStep(997), "s01;s02;w21;")),
                2, -2008, -2004);
        dueAll("one by one, with others between", all(told(atStep(998), "w03;s01;w04;"), told(atStep(998), "s01;w03;s01;w04;")),
                3, -2008);
        due("a number out of range first", told(atStep(999), "w21;s01;"), -2000);
    }

    private static SovereignInBarrow atStep(int step) {
        SovereignInBarrow x = new SovereignInBarrow();
        for (int left = step; left > 0; left -= 60) {
            x.goes(Math.min(60, left));
        }
        due("STEP", x.count(1), step);
        return x;
    }

    private static void allOrNothing() {
        about = "Without FAULT all of it comes, with one nothing";
        String all = "c019;k02;mm0;ml1;b06;g08;w09;x0;s02;";
        String[] ends = {"", "w21;", "w2", "z"};
        int[] answers = {9, -2036, -1038, -1036};
        for (int i = 0; i < ends.length; i++) {
            SovereignInBarrow x = kingdomOf("k02;mr5;");
            due("ending '" + ends[i] + "'", told(x, all + ends[i]), answers[i]);
            long[] seen = {x.cell(1, 0), x.cell(2, 1), x.count(0), x.count(1), x.count(2), x.count(3), x.count(4), x.minister(0, 3)};
            if (i == 0) {
                // The MINISTER falls by 9 above 6, the LEFT ONE just holds it.
                dueAll("all of it", seen, 9, 0, 3, 2, 7, 8, 9, 1);
            } else {
                dueAll("nothing of it", seen, 0, 1, 1, 0, 0, 24, 5, 0);
            }
        }
    }

    public static void main(String[] args) {
        atMost96Letters();
        numbersOfTwoDigits();
        whatTheyDo();
        kindsAndFigures();
        theFirstLetterThatFits();
        theEnd();
        kindTwo();
        stepAbove999();
        allOrNothing();
        end("the boundaries of what is told hold");
    }
}
