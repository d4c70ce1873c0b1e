import java.nio.charset.StandardCharsets;
import java.util.NoSuchElementException;

/** What the tests share: comparing answers, and telling a text to an office. */
final class Check {
    private static int wrong;
    private static int looked;

    private Check() {
    }

    static void same(String what, long want, long got) {
        looked++;
        if (want != got) {
            wrong++;
            System.out.println(what + " answered " + got + ", due is " + want);
        }
    }

    static void yes(String what, boolean got) {
        same(what, 1, got ? 1 : 0);
    }

    static void no(String what, boolean got) {
        same(what, 0, got ? 1 : 0);
    }

    /** Whether lorry() throws what the document names. */
    static boolean lorryThrows(PermitOffice office, int lorry, int what) {
        try {
            office.lorry(lorry, what);
            return false;
        } catch (NoSuchElementException e) {
            return true;
        }
    }

    static boolean homeThrows(PermitOffice office, int lorry) {
        try {
            office.home(lorry);
            return false;
        } catch (NoSuchElementException e) {
            return true;
        }
    }

    /** Feeds the bytes of a text, with the rest of the last feed cut off. */
    static void tape(PermitOffice office, String text) {
        byte[] bytes = text.getBytes(StandardCharsets.ISO_8859_1);
        for (int at = 0; at < bytes.length; at += 20) {
            office.feed(number(bytes, at), number(bytes, at + 4), number(bytes, at + 8),
                    number(bytes, at + 12), number(bytes, at + 16));
        }
        office.end(bytes.length);
    }

    private static int number(byte[] bytes, int at) {
        int sum = 0;
        for (int k = at; k < at + 4; k++) {
            sum = sum << 8 | (k < bytes.length ? bytes[k] & 255 : 0);
        }
        return sum;
    }

    static int tell(PermitOffice office, String text) {
        tape(office, text);
        return office.text();
    }

    /** A new office with a text that has to be right. */
    static PermitOffice office(String text) {
        PermitOffice office = new PermitOffice();
        if (tell(office, text) < 0) {
            throw new IllegalStateException("a test's text has a fault: " + text);
        }
        return office;
    }

    static void end(String name) {
        System.out.println(name + ": " + looked + " answers looked at, " + wrong + " wrong");
        if (wrong != 0 || looked == 0) {
            System.exit(1);
        }
    }
}
