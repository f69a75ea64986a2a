import java.util.function.LongSupplier;

/** What the project's tests share: telling kingdoms, and comparing what is answered with what is due. */
abstract class Checks {
    static final long BIG = 4000000000000000000L;
    /** What is being tested: a promise, or a sentence of the document. */
    static String about = "";
    static int wrong;

    static void due(String call, long got, long want) {
        if (got != want) {
            wrong++;
            System.out.println(about + ": " + call + " answered " + got + ", due is " + want);
        }
    }

    /** The answers to a few calls of the same kind. */
    static void dueAll(String calls, long[] got, long... want) {
        due(calls + ": how many", got.length, want.length);
        for (int i = 0; i < Math.min(got.length, want.length); i++) {
            due(calls + ", number " + i, got[i], want[i]);
        }
    }

    static long[] all(long... answers) {
        return answers;
    }

    /** The call answers the refusal, counts it once, and counts no other. */
    static void no(SovereignInBarrow x, String call, int refusal, LongSupplier asked) {
        int[] before = refusals(x);
        long answer = asked.getAsLong();
        boolean isLong = call.startsWith("plank") || call.startsWith("mean");
        due(call, answer, isLong ? BIG - refusal : refusal);
        int[] after = refusals(x);
        for (int i = 0; i < 6; i++) {
            due(call + ": count(" + (11 + i) + ")", after[i], before[i] + (i == -refusal - 1 ? 1 : 0));
        }
    }

    static int[] refusals(SovereignInBarrow x) {
        int[] counts = new int[6];
        for (int i = 0; i < 6; i++) {
            counts[i] = x.count(11 + i);
        }
        return counts;
    }

    static void letters(SovereignInBarrow x, String text) {
        for (int i = 0; i < text.length(); i++) {
            x.letter(text.charAt(i));
        }
    }

    static int told(SovereignInBarrow x, String text) {
        letters(x, text);
        return x.kingdom();
    }

    /** Tells as many STATEMENTS as there are, in as many tellings as their letters need. */
    static void tellAll(SovereignInBarrow x, String text) {
        StringBuilder part = new StringBuilder();
        for (String statement : text.split("(?<=;)")) {
            if (part.length() + statement.length() > 96) {
                tellPart(x, part.toString());
                part.setLength(0);
            }
            part.append(statement);
        }
        tellPart(x, part.toString());
    }

    private static void tellPart(SovereignInBarrow x, String text) {
        if (told(x, text) <= 0) {
            wrong++;
            System.out.println(about + ": not told: " + text);
        }
    }

    static SovereignInBarrow kingdomOf(String text) {
        SovereignInBarrow x = new SovereignInBarrow();
        tellAll(x, text);
        return x;
    }

    static long[] path(SovereignInBarrow x, int n) {
        long[] cells = new long[n + 1];
        for (int i = 0; i <= n; i++) {
            cells[i] = x.then(i, 0);
        }
        return cells;
    }

    static void end(String holds) {
        System.out.println(wrong == 0 ? holds : wrong + " answers are not as due");
        if (wrong != 0) {
            System.exit(1);
        }
    }
}
