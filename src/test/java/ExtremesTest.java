import java.util.NoSuchElementException;

/**
 * Every call of one, two and three numbers with every mix of edge numbers, in offices of several
 * states, each answer compared with PlainOffice's: none may throw by itself, and what is refused
 * changes nothing.
 */
public final class ExtremesTest {
    private static final int[] ONES = {Integer.MIN_VALUE, Integer.MIN_VALUE + 1, Integer.MIN_VALUE + 9,
        Integer.MIN_VALUE + 10, -1000, -101, -100, -99, -98, -65, -64, -33, -32, -31, -11, -10, -9, -8, -7, -6, -5, -4,
        -3, -2, -1, 0, 1, 2, 3, 4, 5, 6, 7, 8, 9, 10, 11, 12, 13, 14, 15, 16, 17, 20, 21, 31, 32, 33, 39, 40, 41, 48,
        49, 50, 51, 63, 64, 65, 98, 99, 100, 101, 127, 128, 255, 256, 511, 512, 998, 999, 1000, 65535, 65536,
        Integer.MAX_VALUE - 10, Integer.MAX_VALUE - 9, Integer.MAX_VALUE - 1, Integer.MAX_VALUE};
    private static final int[] ROWS = {Integer.MIN_VALUE, -210, -10, -1, 0, 1, 2, 9, 10, 11, 12, 20, 21, 30, 80, 90, 100,
        110, 210, 321, 543210, 654321, 765432, 999999, 1000000, 6543210, 76543210, 1876543210, Integer.MAX_VALUE};
    private static final int[] MANY = {Integer.MIN_VALUE, -1, 0, 1, 2, 3, 4, 5, 6, 7, 8, 10, 32, Integer.MAX_VALUE};
    /** Of a document's 512 calls some are left for making the office. */
    private static final int CALLS = 300;

    private static final String[] WITH_ONE = {"now", "plan", "needs", "drop", "home", "pass"};
    private static final String[] WITH_TWO = {"type", "ledger", "lorry", "trip", "fits", "served", "free", "shortest",
        "lawful", "stop", "handBack"};
    private static final int STATES = 5;

    private final int state;
    private PermitOffice office;
    private PlainOffice plain;
    private int made;

    private ExtremesTest(int state) {
        this.state = state;
        begin();
    }

    public static void main(String[] args) {
        for (int state = 0; state < STATES; state++) {
            ExtremesTest test = new ExtremesTest(state);
            test.callsWithOne();
            test.callsWithTwo();
            test.asks();
        }
        Check.end("ExtremesTest");
    }

    private void callsWithOne() {
        for (String call : WITH_ONE) {
            for (int a : ONES) {
                compare(call, a, 0, 0);
            }
        }
    }

    private void callsWithTwo() {
        for (String call : WITH_TWO) {
            for (int a : ONES) {
                for (int b : ONES) {
                    compare(call, a, b, 0);
                }
            }
        }
    }

    private void asks() {
        for (int lorry : ONES) {
            for (int row : ROWS) {
                for (int many : MANY) {
                    compare("ask", lorry, row, many);
                }
            }
        }
    }

    // ---- offices

    private void begin() {
        office = new PermitOffice();
        plain = new PlainOffice();
        made = 0;
        switch (state) {
            case 0:
                break;
            case 1:
                tell("lands 1 1;type single 1 0 0 0 0;lorry 0 1;");
                break;
            case 2:
                tell("lands 8 9;border 0 1;border 1 2;border 2 3;border 3 4;border 4 5;border 5 6;border 6 7;"
                        + "type single 1 1 9 1 1 2 3;type shared 9 1 99 9 99 0 1 2 3 4 5 6 7;".repeat(3)
                        + "lorry 0 1;lorry 0 6;".repeat(4));
                liveOn();
                break;
            case 3:
                tell("lands 3 1;border 0 1;border 1 2;type single 1 1 1 0 1 2;type multi 2 0 1 3 1;"
                        + "lorry 0 1;lorry 1 2;lorry 0 3;");
                liveOn();
                break;
            default:
                tell("lands 2 1;border 0 1;type multi 1 0 1 3 1;lorry 0 1;lorry 0 1;");
                fillUp();
                break;
        }
    }

    private void tell(String text) {
        int lines = Check.tell(office, text);
        for (int at = 0; at < text.length(); at += 20) {
            int[] numbers = new int[5];
            for (int k = 0; k < 20; k++) {
                numbers[k / 4] = numbers[k / 4] << 8 | (at + k < text.length() ? text.charAt(at + k) : 0);
            }
            plain.feed(numbers);
        }
        plain.end(text.length());
        Check.same("text " + text, plain.text(), lines);
        Check.yes("a right text", lines > 0);
    }

    /** TRIPS that are DONE, LATE, OUT, that WAIT, and one that was dropped. */
    private void liveOn() {
        int[] rows = {10, 210, 10, 21, 321, 10, 10, 10};
        for (int round = 0; round < 2; round++) {
            for (int lorry = 0; lorry < rows.length; lorry++) {
                both("ask", lorry, rows[lorry], rows[lorry] > 99 ? 3 : 2);
            }
            both("drop", 1, 0, 0);
            both("assign", 0, 0, 0);
            both("pass", 1 + round, 0, 0);
            both("home", 0, 0, 0);
            both("handBack", 0, 1, 0);
            both("ask", 0, 10, 2);
        }
    }

    /** All 40 TRIPS, on the last DAY. */
    private void fillUp() {
        for (int trip = 0; trip < 40; trip++) {
            both("ask", trip % 2, 10, 2);
            if (trip < 38) {
                both("drop", trip, 0, 0);
            }
        }
        both("assign", 0, 0, 0);
        for (int k = 0; k < 10; k++) {
            both("pass", 99, 0, 0);
        }
        both("pass", 9, 0, 0);
    }

    private void both(String call, int a, int b, int c) {
        byOffice(call, a, b, c);
        byPlain(call, a, b, c);
    }

    // ---- comparing

    private void compare(String call, int a, int b, int c) {
        if (made > CALLS) {
            begin();
        }
        int acts = office.now(9);
        long want = byPlain(call, a, b, c);
        long got = byOffice(call, a, b, c);
        String name = "state " + state + ": " + call + "(" + a + ", " + b + ", " + c + ")";
        Check.same(name, want, got);
        made += 2;
        if (isAct(call) && !isRefused(call, want)) {
            // As full states keep ten acts at most, the numbers of them may stay alike.
            Check.same("undo of " + name, plain.undo(), office.undo());
            begin();
        } else {
            Check.same("acts behind " + name, acts, office.now(9));
            made++;
        }
    }

    private static boolean isAct(String call) {
        return switch (call) {
            case "ask", "drop", "home", "pass", "stop", "handBack" -> true;
            default -> false;
        };
    }

    private static boolean isRefused(String call, long answer) {
        return answer < 0 || call.equals("drop") && answer == 0;
    }

    private long byOffice(String call, int a, int b, int c) {
        try {
            return switch (call) {
                case "now" -> office.now(a);
                case "plan" -> office.plan(a);
                case "needs" -> office.needs(a);
                case "drop" -> office.drop(a) ? 1 : 0;
                case "home" -> office.home(a);
                case "pass" -> office.pass(a);
                case "type" -> office.type(a, b);
                case "ledger" -> office.ledger(a, b);
                case "lorry" -> office.lorry(a, b);
                case "trip" -> office.trip(a, b);
                case "fits" -> office.fits(a, b) ? 1 : 0;
                case "served" -> office.served(a, b);
                case "free" -> office.free(a, b);
                case "shortest" -> office.shortest(a, b);
                case "lawful" -> office.lawful(a, b);
                case "stop" -> office.stop(a, b);
                case "handBack" -> office.handBack(a, b);
                case "assign" -> office.assign();
                default -> office.ask(a, b, c);
            };
        } catch (NoSuchElementException e) {
            return PlainOffice.THROWS;
        }
    }

    private long byPlain(String call, int a, int b, int c) {
        return switch (call) {
            case "now" -> plain.now(a);
            case "plan" -> plain.plan(a);
            case "needs" -> plain.needs(a);
            case "drop" -> plain.drop(a) ? 1 : 0;
            case "home" -> plain.home(a);
            case "pass" -> plain.pass(a);
            case "type" -> plain.type(a, b);
            case "ledger" -> plain.ledger(a, b);
            case "lorry" -> plain.lorry(a, b);
            case "trip" -> plain.trip(a, b);
            case "fits" -> plain.fits(a, b) ? 1 : 0;
            case "served" -> plain.served(a, b);
            case "free" -> plain.free(a, b);
            case "shortest" -> plain.shortest(a, b);
            case "lawful" -> plain.lawful(a, b);
            case "stop" -> plain.stop(a, b);
            case "handBack" -> plain.handBack(a, b);
            case "assign" -> plain.assign();
            default -> plain.ask(a, b, c);
        };
    }
}
