import java.nio.charset.StandardCharsets;
import java.util.NoSuchElementException;
import java.util.Random;

/** Random runs of at most 512 calls, each answer compared with PlainOffice's. */
public final class ModelTest {
    private static final int RUNS = 2500;
    private static final int TEXT_RUNS = 600;
    private static final int CALLS = 512;
    private static final int[] FAR = {Integer.MIN_VALUE, Integer.MAX_VALUE, -1, 40, 99, 100, -99, -100, 1 << 30};

    /** The calls, by their numbers in call(), of which a busy office has more. */
    private static final int[] BUSY_CALLS = {0, 0, 0, 0, 0, 0, 4, 5, 5, 5, 8, 9, 23, 23, 23, 26, 27};

    private final Random random;
    private final String name;
    private final PermitOffice office = new PermitOffice();
    private final PlainOffice plain = new PlainOffice();
    private final StringBuilder calls = new StringBuilder();
    private int made;
    private boolean fine = true;
    /** Many TRIPS, of which types are short. */
    private boolean busy;

    private ModelTest(int seed) {
        random = new Random(seed);
        name = "run " + seed;
    }

    public static void main(String[] args) {
        for (int seed = 0; seed < RUNS; seed++) {
            new ModelTest(seed).run();
        }
        for (int seed = RUNS; seed < RUNS + TEXT_RUNS; seed++) {
            new ModelTest(seed).runTexts();
        }
        Check.end("ModelTest");
    }

    private void run() {
        int texts = random.nextInt(4) == 0 ? 12 : 1 + random.nextInt(2);
        for (int k = 0; k < texts && fine; k++) {
            busy = random.nextInt(3) == 0;
            tell(busy ? busyText() : randomText(k > 0 && random.nextBoolean()));
            int share = (CALLS - made) / (texts - k);
            int last = made + Math.max(0, share - 60);
            while (fine && made < last) {
                call();
            }
        }
    }

    /** Texts alone, most of them with a FAULT. */
    private void runTexts() {
        for (int k = 0; k < 9 && fine; k++) {
            tell(randomText(true));
        }
    }

    private void compare(String call, long want, long got) {
        made++;
        calls.append(call).append(" = ").append(want).append('\n');
        if (want != got) {
            fine = false;
            System.out.println(calls);
        }
        Check.same(name + ": " + call, want, got);
    }

    // ---- texts

    private int below(int n) {
        return random.nextInt(n);
    }

    private String blank() {
        return below(30) == 0 ? " \n" : below(20) == 0 ? "\n" : " ";
    }

    private String word(Object... parts) {
        StringBuilder line = new StringBuilder();
        for (Object part : parts) {
            line.append(line.length() == 0 ? "" : blank()).append(part);
        }
        return line.append(below(10) == 0 ? " ;" : ";").append(below(10) == 0 ? blank() : "").toString();
    }

    private String randomText(boolean broken) {
        int lands = 1 + (below(3) == 0 ? below(8) : 3 + below(5));
        StringBuilder text = new StringBuilder(word("lands", lands, 1 + below(below(2) == 0 ? 3 : 9)));
        int lines = 10 + below(30);
        for (int k = 0; k < lines; k++) {
            int sort = below(8);
            if (sort < 4 && lands > 1) {
                int one = below(lands);
                int other = (one + 1 + below(lands - 1)) % lands;
                text.append(word("border", one, other));
            } else if (sort < 6) {
                text.append(typeLine(lands));
            } else {
                text.append(word("lorry", below(2) == 0 ? 0 : below(lands), 1 + below(6)));
            }
        }
        if (!broken) {
            return fitting(text.toString());
        }
        for (int k = below(3); k >= 0; k--) {
            breakOne(text);
        }
        return text.substring(0, Math.min(740, text.length()));
    }

    private String busyText() {
        int lands = 3 + below(3);
        StringBuilder text = new StringBuilder(word("lands", lands, 1 + below(3)));
        for (int one = 0; one < lands; one++) {
            for (int other = one + 1; other < lands; other++) {
                if (below(5) > 0) {
                    text.append(word("border", one, other));
                }
            }
        }
        for (int k = 2 + below(5); k > 0; k--) {
            text.append("type ").append(below(3) == 0 ? "shared 2" : below(3) == 0 ? "multi" : "single");
            text.append(' ').append(1 + below(3)).append(' ').append(below(4)).append(' ').append(below(4));
            text.append(' ').append(below(5));
            int bits = below(1 << lands) | below(1 << lands) | 2;
            for (int land = 0; land < lands; land++) {
                text.append((bits >> land & 1) != 0 ? " " + land : "");
            }
            text.append(';');
        }
        for (int k = 0; k < 8; k++) {
            text.append(word("lorry", below(2) == 0 ? 0 : below(lands), 1 + below(4)));
        }
        return text.toString();
    }

    private String typeLine(int lands) {
        StringBuilder line = new StringBuilder("type ");
        int kind = below(3);
        line.append(kind == 0 ? "single" : kind == 1 ? "multi" : "shared " + (2 + below(below(2) == 0 ? 2 : 8)));
        line.append(' ').append(1 + below(below(2) == 0 ? 2 : 6));
        line.append(' ').append(below(below(2) == 0 ? 3 : 100));
        line.append(' ').append(below(below(2) == 0 ? 3 : 10));
        line.append(' ').append(below(below(3) == 0 ? 100 : 8));
        int bits = below(3) == 0 ? (1 << lands) - 1 : 1 + below((1 << lands) - 1);
        for (int land = 0; land < lands; land++) {
            if ((bits >> land & 1) != 0) {
                line.append(' ').append(below(10) == 0 ? "0" : "").append(land);
            }
        }
        return line.append(';').toString();
    }

    /** Leaves out LINES that are too many, so that most texts are right. */
    private String fitting(String text) {
        StringBuilder whole = new StringBuilder();
        int types = 0;
        int lorries = 0;
        for (String line : text.split("(?<=;)")) {
            types += line.contains("type") ? 1 : 0;
            lorries += line.contains("lorry") ? 1 : 0;
            boolean tooMany = line.contains("type") && types > 6 || line.contains("lorry") && lorries > 8;
            if (!tooMany && whole.length() + line.length() <= 700) {
                whole.append(line);
            }
        }
        return whole.toString();
    }

    private void breakOne(StringBuilder text) {
        if (text.length() == 0) {
            return;
        }
        String signs = "09;az \n\t{`:/<=A\u0000\u00ff\u00e9";
        int at = below(text.length());
        switch (below(6)) {
            case 0 -> text.deleteCharAt(at);
            case 1 -> text.insert(at, signs.charAt(below(signs.length())));
            case 2 -> text.setCharAt(at, signs.charAt(below(signs.length())));
            case 3 -> text.setLength(at + 1);
            case 4 -> text.append(" ".repeat(Math.max(0, 695 + below(45) - text.length())));
            default -> {
                int part = text.indexOf(";", at);
                String line = typeLine(8);
                while (part >= 0 && text.length() < 695 + below(45)) {
                    text.insert(part + 1, below(3) == 0 ? line : "border 0 1;");
                }
            }
        }
    }

    private void tell(String text) {
        byte[] bytes = text.getBytes(StandardCharsets.ISO_8859_1);
        for (int at = 0; at < bytes.length; at += 20) {
            int[] numbers = new int[5];
            for (int k = 0; k < 20; k++) {
                numbers[k / 4] = numbers[k / 4] << 8 | (at + k < bytes.length ? bytes[at + k] & 255 : 0);
            }
            feed(numbers);
        }
        compare("end(" + bytes.length + ")", plain.end(bytes.length) ? 1 : 0, office.end(bytes.length) ? 1 : 0);
        compare("text() of " + text, plain.text(), office.text());
        compare("fault()", plain.fault(), office.fault());
        for (int what = 0; what < 11; what++) {
            compare("now(" + what + ")", plain.now(what), office.now(what));
        }
    }

    private void feed(int[] n) {
        compare("feed(" + n[0] + ", ..)", plain.feed(n), office.feed(n[0], n[1], n[2], n[3], n[4]));
    }

    // ---- calls

    /** Mostly a number of so many, at times one that is wrong. */
    private int some(int n) {
        if (below(40) == 0) {
            return FAR[below(FAR.length)];
        }
        return below(15) == 0 ? below(n + 3) - 1 : below(Math.max(1, n));
    }

    private int lorries() {
        return (int) plain.now(3);
    }

    private void call() {
        int types = (int) plain.now(2);
        int lands = (int) plain.now(1);
        int trips = (int) plain.now(4);
        int a;
        int b;
        switch (busy && below(2) == 0 ? BUSY_CALLS[below(BUSY_CALLS.length)] : below(34)) {
            case 0, 1, 2, 3 -> ask();
            case 4 -> compare("assign()", plain.assign(), office.assign());
            case 5, 6 -> home();
            case 7 -> {
                a = some(lorries());
                b = some(lands);
                compare("stop(" + a + ", " + b + ")", plain.stop(a, b), office.stop(a, b));
            }
            case 8 -> {
                a = some(types);
                b = below(5) == 0 ? some(8) : 1 + below(2);
                compare("handBack(" + a + ", " + b + ")", plain.handBack(a, b), office.handBack(a, b));
            }
            case 9, 10 -> {
                a = below(8) == 0 ? some(110) : 1 + below(4);
                compare("pass(" + a + ")", plain.pass(a), office.pass(a));
            }
            case 11, 12 -> compare("undo()", plain.undo(), office.undo());
            case 13 -> {
                a = some(trips);
                if (below(3) == 0) {
                    compare("drop(" + a + ")", plain.drop(a) ? 1 : 0, office.drop(a) ? 1 : 0);
                }
            }
            case 14, 15 -> {
                a = some(11);
                compare("now(" + a + ")", plain.now(a), office.now(a));
            }
            case 16 -> {
                a = some(types);
                b = some(8);
                compare("type(" + a + ", " + b + ")", plain.type(a, b), office.type(a, b));
            }
            case 17, 18 -> {
                a = some(types);
                b = some(6);
                compare("ledger(" + a + ", " + b + ")", plain.ledger(a, b), office.ledger(a, b));
            }
            case 19 -> lorry();
            case 20, 21 -> {
                a = below(2) == 0 ? trips - 1 : some(trips);
                b = some(17);
                compare("trip(" + a + ", " + b + ")", plain.trip(a, b), office.trip(a, b));
            }
            case 22 -> {
                a = some(types);
                b = some(trips);
                compare("fits(" + a + ", " + b + ")", plain.fits(a, b) ? 1 : 0, office.fits(a, b) ? 1 : 0);
            }
            case 23, 24, 25 -> {
                a = below(3) == 0 ? below(2) : below(2) == 0 ? 10 + trips - below(9) : some(52);
                compare("plan(" + a + ")", plain.plan(a), office.plan(a));
            }
            case 26 -> {
                a = some(types);
                b = below(6) == 0 ? some(100) : below(9) - 4;
                compare("served(" + a + ", " + b + ")", plain.served(a, b), office.served(a, b));
            }
            case 27, 28 -> {
                a = some(types);
                compare("needs(" + a + ")", plain.needs(a), office.needs(a));
            }
            case 29 -> {
                a = some(lands);
                b = some(7);
                compare("free(" + a + ", " + b + ")", plain.free(a, b), office.free(a, b));
            }
            case 30 -> {
                a = some(lorries());
                b = some(lands);
                compare("shortest(" + a + ", " + b + ")", plain.shortest(a, b), office.shortest(a, b));
            }
            case 31 -> {
                a = some(lorries());
                b = some(lands);
                compare("lawful(" + a + ", " + b + ")", plain.lawful(a, b), office.lawful(a, b));
            }
            case 32 -> {
                if (below(20) == 0) {
                    compare("text()", plain.text(), office.text());
                } else {
                    compare("fault()", plain.fault(), office.fault());
                }
            }
            default -> {
                if (below(10) == 0) {
                    feed(new int[] {some(9), 2, 3, 4, 5});
                    compare("end(0)", plain.end(0) ? 1 : 0, office.end(0) ? 1 : 0);
                }
            }
        }
    }

    private void ask() {
        int lorry = some(lorries());
        int many = below(20) == 0 ? some(8) : 2 + below(3);
        int row = below(20) == 0 ? some(1000000) : walk(lorry, many);
        compare("ask(" + lorry + ", " + row + ", " + many + ")",
                plain.ask(lorry, row, many), office.ask(lorry, row, many));
    }

    /** A row over borders, but for a wrong step at times. */
    private int walk(int lorry, int many) {
        long home = plain.lorry(lorry, 0);
        int here = home < 0 ? 0 : (int) home;
        int row = here;
        int place = 10;
        int seen = 1 << here;
        for (int k = 1; k < Math.min(many, 6); k++) {
            int next = below(10);
            for (int guess = 0; guess < 20 && (!plain.isBorder(here, next) || (seen >> next & 1) != 0); guess++) {
                next = below(30) == 0 ? below(10) : below(Math.max(1, (int) plain.now(1)));
            }
            row += place * next;
            place *= 10;
            seen |= 1 << next;
            here = next;
        }
        return row;
    }

    private void lorry() {
        int a = some(lorries());
        int b = some(5);
        long got;
        try {
            got = office.lorry(a, b);
        } catch (NoSuchElementException e) {
            got = PlainOffice.THROWS;
        }
        compare("lorry(" + a + ", " + b + ")", plain.lorry(a, b), got);
    }

    private void home() {
        int a = some(lorries());
        long got;
        try {
            got = office.home(a);
        } catch (NoSuchElementException e) {
            got = PlainOffice.THROWS;
        }
        compare("home(" + a + ")", plain.home(a), got);
    }
}
