import java.nio.charset.StandardCharsets;

/** Counts the calls whose answer is not the one that is due, and prints each of them. */
final class Due {
    private static int wrong = 0;
    private static String place = "";

    private Due() {
    }

    static void in(String newPlace) {
        place = newPlace;
    }

    static void is(String call, long got, long want) {
        if (got != want) {
            wrong++;
            System.out.println(place + ": " + call + " answered " + got + ", due is " + want);
        }
    }

    static void isTrue(String what, boolean holds) {
        is(what, holds ? 1 : 0, 1);
    }

    static void end() {
        System.out.println(wrong == 0 ? "all answers are as due" : wrong + " answers are not as due");
        if (wrong != 0) {
            System.exit(1);
        }
    }

    /** Feeds a text, with blanks behind it up to a feed's twenty bytes: what the last feed answered. */
    static int feed(RuleBroadcast x, String text) {
        byte[] bytes = text.getBytes(StandardCharsets.ISO_8859_1);
        int last = 0;
        for (int start = 0; start < bytes.length; start += 20) {
            last = x.feed(number(bytes, start), number(bytes, start + 4), number(bytes, start + 8),
                    number(bytes, start + 12), number(bytes, start + 16));
        }
        return last;
    }

    /** Feeds a text, without the blanks that feed() puts behind it, and tells it as a rule. */
    static int tell(RuleBroadcast x, String text, long time) {
        feed(x, text);
        x.keep(text.length());
        return x.rule(time);
    }

    private static int number(byte[] bytes, int start) {
        int number = 0;
        for (int i = start; i < start + 4; i++) {
            number = number << 8 | (i < bytes.length ? bytes[i] & 255 : ' ');
        }
        return number;
    }
}
