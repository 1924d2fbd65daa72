import java.nio.charset.StandardCharsets;

/** What the tests share: comparing answers, feeding texts, the closing line. */
final class Check {
    private int right = 0;
    private int wrong = 0;
    private String part = "";

    void part(String name) {
        part = name;
    }

    void due(String call, long got, long want) {
        if (got == want) {
            right++;
        } else {
            wrong++;
            System.out.println(part + ": " + call + " answered " + got + ", due is " + want);
        }
    }

    void holds(String what, boolean so) {
        due(what, so ? 1 : 0, 1);
    }

    void close(String test) {
        System.out.println(test + ": " + right + " as due, " + wrong + " not");
        if (wrong != 0 || right == 0) {
            System.exit(1);
        }
    }

    /** Puts bytes behind the tape, whatever it has; answers how many it has then. */
    static int feed(CloudCalls x, byte[] bytes) {
        int had = x.count(8);
        for (int i = 0; i < bytes.length; i += 20) {
            int[] five = new int[5];
            for (int j = 0; j < 20; j++) {
                int b = i + j < bytes.length ? bytes[i + j] & 255 : 32;
                five[j / 4] |= b << (24 - 8 * (j % 4));
            }
            if (x.feed(five[0], five[1], five[2], five[3], five[4]) == CloudCalls.NONE) {
                return CloudCalls.NONE;
            }
        }
        return x.end(had + bytes.length);
    }

    static int feed(CloudCalls x, String text) {
        return feed(x, text.getBytes(StandardCharsets.ISO_8859_1));
    }

    static int law(CloudCalls x, String text) {
        feed(x, text);
        return x.law();
    }

    static int orders(CloudCalls x, String text) {
        feed(x, text);
        return x.orders();
    }

    /** The place of the fault of a text of a law on a new object, NONE without. */
    static int lawFault(String text) {
        CloudCalls x = new CloudCalls();
        int answer = law(x, text);
        return answer == -6 || answer == 0 ? x.fault() : -100;
    }

    /** The place of the fault of orders on a new object, NONE without. */
    static int ordersFault(String text) {
        CloudCalls x = new CloudCalls();
        orders(x, text);
        return x.fault();
    }
}
