import java.util.Objects;

/** Counts and prints the answers that are not as due. */
final class Check {
    private static int wrong = 0;
    private static int asked = 0;
    private static String sentence = "";

    private Check() {
    }

    /** Where the document says what the checks behind this call are about, and its words: printed with what is wrong. */
    static void says(String place, String words) {
        sentence = place + ": \"" + words + "\" ";
    }

    /** The numbers next to a range, on both sides, and those that are farthest from it. */
    static int[] outside(int least, int most) {
        return new int[] {least - 1, most + 1, Integer.MIN_VALUE, Integer.MAX_VALUE};
    }

    static void same(String call, Object got, Object due) {
        asked++;
        if (!Objects.equals(got, due)) {
            wrong++;
            System.out.println(sentence + call + " answered " + got + ", due is " + due);
        }
    }

    static void invalid(StarConsole x, String call, Runnable r) {
        refuses(x, call, IllegalArgumentException.class, r);
    }

    static void full(StarConsole x, String call, Runnable r) {
        refuses(x, call, IllegalStateException.class, r);
    }

    static void absent(StarConsole x, String call, Runnable r) {
        refuses(x, call, IndexOutOfBoundsException.class, r);
    }

    /** The very class is due, as a kind of it could be one that the machine threw; and nothing may change. */
    private static void refuses(StarConsole x, String call, Class<?> due, Runnable r) {
        long before = x.digest();
        Class<?> got = null;
        try {
            r.run();
        } catch (RuntimeException e) {
            got = e.getClass();
        }
        same(call + " throws", got, due);
        same("digest() after " + call, x.digest(), before);
    }

    static void end() {
        System.out.println(asked + " answers looked at, " + wrong + " not as due");
        if (wrong != 0) {
            System.exit(1);
        }
    }
}
