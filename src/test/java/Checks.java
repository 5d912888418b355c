import java.util.function.LongSupplier;

/** What the tests share: answers that are due, REFUSALS that change nothing else, and the end of a test. */
final class Checks {
    static final long FAR = -1000000000L;
    static final long FAR_COST = -4000000000000000000L;

    private static int checked = 0;
    private static int wrong = 0;
    private static String context = "";

    private Checks() {
    }

    /** What is printed ahead of each wrong answer from here on. */
    static void context(String words) {
        context = words;
    }

    static int checkedSoFar() {
        return checked;
    }

    static void due(String call, long got, long want) {
        checked++;
        if (got != want) {
            wrong++;
            System.out.println(context + call + " answered " + got + ", due is " + want);
        }
    }

    static void yes(String what, boolean is) {
        checked++;
        if (!is) {
            wrong++;
            System.out.println(context + what + ": it is not so");
        }
    }

    static void same(String what, String got, String want) {
        checked++;
        if (!got.equals(want)) {
            wrong++;
            System.out.println(context + what + ": " + got + ", due is " + want);
        }
    }

    /** The call answers base + number, and one REFUSAL more of that number is counted; EdgesTest looks for more. */
    static void refused(HarbourMud x, String call, LongSupplier answer, long base, int number) {
        int before = x.count(10 - number);
        due(call, answer.getAsLong(), base + number);
        due("count(" + (10 - number) + ") behind " + call, x.count(10 - number), before + 1);
    }

    static void refused(HarbourMud x, String call, LongSupplier answer, int number) {
        refused(x, call, answer, 0, number);
    }

    /** All that can be seen without a change and without a REFUSAL. */
    static String lookOf(HarbourMud x) {
        StringBuilder look = new StringBuilder();
        for (int what = 0; what <= 9; what++) {
            look.append(x.count(what)).append(' ');
        }
        int cells = x.count(0);
        for (int cell = 0; cell < cells; cell++) {
            look.append('|');
            for (int stuff = 0; stuff < 2; stuff++) {
                look.append(x.tons(cell, stuff, true)).append(' ');
                look.append(x.tons(cell, stuff, false)).append(' ');
            }
            look.append(x.depth(cell)).append(' ').append(x.lacks(cell));
        }
        if (cells > 0) {
            look.append('|').append(x.takes()).append(' ').append(x.cost(1)).append(' ').append(x.cost(29));
            look.append(' ').append(x.holds(29)).append(' ').append(x.alone(29)).append(' ').append(x.wall(7));
            look.append(' ').append(x.back(0, 1, 9999, (1 << cells) - 1, 9));
        }
        for (int river = 0; river < x.count(2); river++) {
            look.append(' ').append(x.share(river, 5));
        }
        return look.toString();
    }

    /** Feeds a text; its bytes are the characters' low eight bits. */
    static void feedAll(HarbourMud x, String text) {
        for (int from = 0; from < text.length(); from += 8) {
            int n = Math.min(8, text.length() - from);
            long bytes = 0;
            for (int i = 0; i < n; i++) {
                bytes |= (text.charAt(from + i) & 255L) << (8 * i);
            }
            x.feed(n, bytes);
        }
    }

    static int coastOf(HarbourMud x, String text) {
        feedAll(x, text);
        return x.coast();
    }

    static void end(String test) {
        System.out.println(test + ": " + checked + " looked at, " + wrong + " wrong");
        if (wrong != 0) {
            System.exit(1);
        }
    }
}
