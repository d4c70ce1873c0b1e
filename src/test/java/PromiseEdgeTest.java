import java.util.NoSuchElementException;
import java.util.function.ToLongFunction;

/**
 * The document's promises 1 to 25, a test for each sentence that names a boundary, and for each call
 * that is refused or throws, that it changes nothing. The words in quotation marks are the document's.
 */
public final class PromiseEdgeTest {
    private static final long THROWS = Long.MIN_VALUE;
    private static final int LEAST = Integer.MIN_VALUE;
    private static final int MOST = Integer.MAX_VALUE;
    /** Numbers of no LAND, type, lorry or TRIP here, among them such as a shift would take for 0 or 1. */
    private static final int[] NO_SUCH = {-1, -2, -32, 8, 9, 31, 32, 33, 40, 64, 256, 1 << 16, LEAST, LEAST + 1, MOST};

    /** Two types and lorries each, so that the first wrong number is 2. */
    private static final String TEXT = "lands 4 2;border 0 1;border 1 2;type single 1 5 4 3 1 2;"
            + "type shared 2 2 6 1 9 1;lorry 0 1;lorry 0 2;";

    private static String sentence;

    public static void main(String[] args) {
        newObject();
        feed();
        end();
        text();
        fault();
        now();
        type();
        ledger();
        lorry();
        trip();
        fits();
        plan();
        served();
        needs();
        free();
        shortest();
        lawful();
        ask();
        drop();
        assign();
        home();
        stop();
        handBack();
        pass();
        undo();
        Check.end("PromiseEdgeTest");
    }

    private static void same(String what, long want, long got) {
        Check.same("\"" + sentence + "\": " + what, want, got);
    }

    private static long homeOf(PermitOffice x, int lorry) {
        try {
            return x.home(lorry);
        } catch (NoSuchElementException e) {
            return THROWS;
        }
    }

    private static long lorryOf(PermitOffice x, int lorry, int what) {
        try {
            return x.lorry(lorry, what);
        } catch (NoSuchElementException e) {
            return THROWS;
        }
    }

    /**
     * An office with something of everything: lorry 0's TRIPS were DONE in time, LATE and dropped,
     * and it WAITS; lorry 1 is OUT. A FAULT and bytes on the tape.
     */
    private static PermitOffice lived() {
        PermitOffice x = Check.office(TEXT);
        x.ask(0, 10, 2);
        x.assign();
        x.home(0);
        x.ask(0, 210, 3);
        x.assign();
        x.pass(4);
        x.home(0);
        x.ask(0, 10, 2);
        x.drop(2);
        x.ask(1, 10, 2);
        x.assign();
        x.stop(1, 3);
        x.ask(0, 10, 2);
        Check.tell(x, "?");
        x.feed(1, 2, 3, 4, 5);
        return x;
    }

    /** The call answers so, and the office is as it was, for what is undone behind it as well. */
    private static void refused(String call, long due, ToLongFunction<PermitOffice> made) {
        PermitOffice x = lived();
        String before = Sight.of(x);
        same(call, due, made.applyAsLong(x));
        Check.yes("\"" + sentence + "\": " + call + " changes nothing", before.equals(Sight.of(x)));
        PermitOffice y = lived();
        same("undo behind " + call, y.undo(), x.undo());
        Check.yes("\"" + sentence + "\": undone behind " + call, Sight.of(x).equals(Sight.of(y)));
    }

    private static long of(boolean answer) {
        return answer ? 1 : 0;
    }

    // ---- promises 1 to 5

    private static void newObject() {
        sentence = "No LANDS, types, lorries, REISSUE 1; an empty tape";
        PermitOffice x = new PermitOffice();
        for (int what = 0; what <= 10; what++) {
            same("now(" + what + ")", 0, x.now(what));
        }
        same("end(1)", 0, of(x.end(1)));
        same("fault", 0, x.fault());
        same("type", -1, x.type(0, 0));
        same("ledger", -1, x.ledger(0, 0));
        same("lorry", THROWS, lorryOf(x, 0, 0));
        same("trip", -1, x.trip(0, 0));
        same("fits", 0, of(x.fits(0, 0)));
        same("plan served", 0, x.plan(0));
        same("plan cost", 0, x.plan(1));
        same("plan of a trip", -1, x.plan(10));
        same("served", -1, x.served(0, 0));
        same("needs", -1, x.needs(0));
        same("free", -1, x.free(0, 1));
        same("shortest", -1, x.shortest(0, 1));
        same("lawful", -1, x.lawful(0, 0));
        same("ask", -1, x.ask(0, 10, 2));
        same("drop", 0, of(x.drop(0)));
        same("home", THROWS, homeOf(x, 0));
        same("stop", -1, x.stop(0, 0));
        same("handBack", -1, x.handBack(0, 1));
        same("undo", -1, x.undo());
        same("assign", 0, x.assign());
        same("pass", 1, x.pass(1));
        same("undone", 1, x.undo());
        same("undone", 0, x.undo());
        same("text", 0, x.text());
    }

    private static void feed() {
        sentence = "Twenty bytes come behind the tape, of each number the highest first";
        PermitOffice x = new PermitOffice();
        // "land" "s 7 " "9;lo" "rry " "6 5;", and behind it "lorr" "y 04" "06;\n" twice blanks
        same("the first twenty", 20, x.feed(0x6c616e64, 0x73203720, 0x393b6c6f, 0x72727920, 0x3620353b));
        same("twenty more", 40, x.feed(0x6c6f7272, 0x79203034, 0x2030363b, 0x0a0a0a0a, 0x20202020));
        same("lines", 3, x.text());
        same("lands", 7, x.now(1));
        same("the first lorry", 6, x.lorry(0, 0));
        same("the second lorry", 4, x.lorry(1, 0));
        same("its engine", 6, x.lorry(1, 1));
        // Each byte has its place, and those above 127 are no blanks or letters either.
        for (int place = 0; place < 20; place++) {
            int[] numbers = {0x20202020, 0x20202020, 0x20202020, 0x20202020, 0x20202020};
            numbers[place / 4] |= 0x80 << 8 * (3 - place % 4);
            x.feed(numbers[0], numbers[1], numbers[2], numbers[3], numbers[4]);
            same("a wrong byte at " + place, -1 - place, x.text());
        }
        sentence = "NONE, and none come, if it would have more than 740";
        for (int cut = 715; cut <= 725; cut++) {
            x = new PermitOffice();
            for (int k = 0; k < 37; k++) {
                x.feed(0, 0, 0, 0, 0);
            }
            same("full", 740, x.now(10));
            same("more", -1, x.feed(0, 0, 0, 0, 0));
            x.end(cut);
            same("feed behind " + cut, cut <= 720 ? cut + 20 : -1, x.feed(0, 0, 0, 0, 0));
            same("how many behind " + cut, cut <= 720 ? cut + 20 : cut, x.now(10));
        }
        x = new PermitOffice();
        Check.tape(x, "lands 2 1;" + " ".repeat(730));
        same("none come", -1, x.feed(-1, -1, -1, -1, -1));
        x.end(700);
        same("the bytes are as they were", 1, x.text());
    }

    private static void end() {
        sentence = "The tape has its first n bytes alone: true";
        PermitOffice x = new PermitOffice();
        Check.tape(x, "lands 2 1;lorry 0 1;");
        same("all", 1, of(x.end(20)));
        same("how many", 20, x.now(10));
        same("the first ten", 1, of(x.end(10)));
        same("what comes then is behind them", 30, x.feed(0x6c6f7272, 0x79203120, 0x363b2020, 0x20202020, 0x20202020));
        same("lines", 2, x.text());
        same("the later lorry", 6, x.lorry(0, 1));
        Check.tape(x, "lands 9");
        same("none", 1, of(x.end(0)));
        same("none, again", 1, of(x.end(0)));
        same("an empty text", 0, x.text());
        sentence = "false, if it has not so many, or n is below 0";
        refused("end(21)", 0, y -> of(y.end(21)));
        refused("end(740)", 0, y -> of(y.end(740)));
        refused("end(-1)", 0, y -> of(y.end(-1)));
        refused("end(MOST)", 0, y -> of(y.end(MOST)));
        refused("end(LEAST)", 0, y -> of(y.end(LEAST)));
    }

    private static void text() {
        sentence = "The tape (empty then, even with a FAULT)";
        PermitOffice x = lived();
        same("a fault", -1, x.text());
        same("empty", 0, x.now(10));
        same("what was there is gone", 1, Check.tell(x, "lands 1 1;"));
        same("empty", 0, x.now(10));

        sentence = "an empty one: as at first";
        String first = Sight.of(new PermitOffice());
        x = lived();
        x.end(0);
        same("lines", 0, x.text());
        Check.yes("\"" + sentence + "\"", first.equals(Sight.of(x)));
        same("undo", -1, x.undo());
        x = lived();
        Check.tell(cut(x), TEXT);
        same("behind two texts", 0, x.text());
        Check.yes("\"" + sentence + "\": behind two texts", first.equals(Sight.of(x)));
        x = lived();
        same("blanks alone", 0, Check.tell(cut(x), " \n \n"));
        Check.yes("\"" + sentence + "\": blanks alone", first.equals(Sight.of(x)));

        sentence = "-1 less the place of a FAULT";
        same("the first place", -1, Check.tell(new PermitOffice(), "x"));
        same("the second place", -2, Check.tell(new PermitOffice(), " x"));
        same("the end", -6, Check.tell(new PermitOffice(), "lands"));
        same("the last place", -700, Check.tell(new PermitOffice(), " ".repeat(699) + "x"));
        same("behind the last", -701, Check.tell(new PermitOffice(), " ".repeat(700) + "x"));

        sentence = "all stays";
        String[] wrong = {"lands 8", "lands 8 1;lorry 7 7;", TEXT + "lands 2 1;", TEXT + "lorry 0 1;".repeat(7),
            "lands 1 1;" + " ".repeat(691)};
        for (String one : wrong) {
            x = lived();
            String before = Sight.ofBooks(x);
            int acts = x.now(9);
            Check.yes("\"" + sentence + "\": a fault of " + one, Check.tell(cut(x), one) < 0);
            Check.yes("\"" + sentence + "\": " + one, before.equals(Sight.ofBooks(x)));
            same("acts behind " + one, acts, x.now(9));
            PermitOffice y = lived();
            y.undo();
            x.undo();
            Check.yes("\"" + sentence + "\": undone behind " + one, Sight.ofBooks(y).equals(Sight.ofBooks(x)));
        }
    }

    private static PermitOffice cut(PermitOffice x) {
        x.end(0);
        return x;
    }

    private static void fault() {
        sentence = "The kind of the FAULT of the latest text(); 0 without one and ahead of any";
        PermitOffice x = new PermitOffice();
        String[] texts = {"?", "lands 9", "lands 1 1;" + "lorry 0 1;".repeat(9), "lands 0", "lands", "lands 1 1;", "?",
            "", "lands 0", " "};
        int[] kinds = {1, 2, 3, 2, 1, 0, 1, 0, 2, 0};
        same("ahead of any", 0, x.fault());
        for (int k = 0; k < texts.length; k++) {
            Check.tape(x, texts[k]);
            same("the tape alone is no text", k == 0 ? 0 : kinds[k - 1], x.fault());
            x.text();
            same("fault of " + texts[k], kinds[k], x.fault());
            x.pass(1);
            x.undo();
            same("it stays", kinds[k], x.fault());
        }
    }

    // ---- promises 6 to 10

    private static void now() {
        sentence = "now: NONE for another what";
        for (int what : new int[] {-1, -10, 11, 12, 32, 42, 256, LEAST, MOST}) {
            refused("now(" + what + ")", -1, x -> x.now(what));
        }
        sentence = "4 TRIPS, 5 those that WAIT, 6 those OUT";
        PermitOffice x = lived();
        same("trips", 5, x.now(4));
        same("wait", 1, x.now(5));
        same("out", 1, x.now(6));
        sentence = "8 MISUSES of all, 9 what can be undone, 10 bytes of the tape";
        same("late and off its row", 2, x.now(8));
        same("ten at most", 10, x.now(9));
        same("bytes", 20, x.now(10));
        sentence = "7 borders (unlike ones)";
        same("none", 0, Check.office("lands 8 1;").now(7));
        same("two", 2, x.now(7));
    }

    private static void type() {
        sentence = "Of a type 0 its kind, 1 PLACES, 2 ENGINE, 3 COST, 4 COUNT, 5 STAY, 6 LANDS (bits), 7 FREE";
        PermitOffice x = lived();
        int[][] due = {{0, 1, 1, 5, 4, 3, 6, 1}, {2, 2, 2, 6, 1, 9, 2, 2}};
        for (int what = 0; what <= 7; what++) {
            same("type(0, " + what + ")", due[0][what], x.type(0, what));
            same("type(1, " + what + ")", due[1][what], x.type(1, what));
        }
        sentence = "type: NONE: no such one, another what";
        for (int no : NO_SUCH) {
            same("type(" + no + ", 0)", -1, x.type(no, 0));
            same("type(0, " + no + ")", -1, x.type(0, no));
        }
        same("type(2, 7)", -1, x.type(2, 7));
        same("type(6, 0)", -1, x.type(6, 0));
        refused("type(2, 0)", -1, y -> y.type(2, 0));
        refused("type(1, 8)", -1, y -> y.type(1, 8));
    }

    private static void ledger() {
        sentence = "Pieces of a type 0 IN, 1 OUT, 2 SPENT, 3 LOST, 4 BACK, 5 REISSUED";
        PermitOffice x = lived();
        int[] due = {1, 1, 1, 1, 0, 0};
        for (int what = 0; what <= 5; what++) {
            same("ledger(0, " + what + ")", due[what], x.ledger(0, what));
        }
        sentence = "ledger: NONE: no such one, another what";
        for (int no : NO_SUCH) {
            same("ledger(" + no + ", 0)", -1, x.ledger(no, 0));
            same("ledger(0, " + no + ")", -1, x.ledger(0, no));
        }
        same("ledger(6, 0)", -1, x.ledger(6, 0));
        refused("ledger(2, 0)", -1, y -> y.ledger(2, 0));
        refused("ledger(1, 6)", -1, y -> y.ledger(1, 6));
    }

    private static void lorry() {
        sentence = "Of a lorry 2 its TRIP that WAITS or is OUT (NONE)";
        PermitOffice x = lived();
        same("it waits", 4, x.lorry(0, 2));
        same("it is out", 3, x.lorry(1, 2));
        x.home(1);
        same("it is home", -1, x.lorry(1, 2));
        x.drop(4);
        same("it was dropped", -1, x.lorry(0, 2));
        sentence = "4 TRIPS that are DONE (dropped ones, too)";
        same("two of four dropped", 4, x.lorry(0, 4));
        same("one", 1, x.lorry(1, 4));
        sentence = "lorry: NoSuchElementException: no such one, another what";
        for (int no : NO_SUCH) {
            same("lorry(" + no + ", 0)", THROWS, lorryOf(x, no, 0));
            same("lorry(0, " + no + ")", THROWS, lorryOf(x, 0, no));
            same("lorry(" + no + ", " + no + ")", THROWS, lorryOf(x, no, no));
        }
        refused("lorry(2, 0)", THROWS, y -> lorryOf(y, 2, 0));
        refused("lorry(1, 5)", THROWS, y -> lorryOf(y, 1, 5));
        refused("lorry(-1, 0)", THROWS, y -> lorryOf(y, -1, 0));
        refused("lorry(0, -1)", THROWS, y -> lorryOf(y, 0, -1));
    }

    private static void trip() {
        sentence = "3 the type (NONE: it WAITS, or was dropped), 4 the DAY from which it is, was OUT (NONE likewise),"
                + " 5 the DAY on which it was DONE (NONE: not yet), 6 1 if it was LATE then, else 0";
        PermitOffice x = lived();
        int[][] due = {{0, 2, 2, 0, 0, 0, 0}, {0, 3, 2, 0, 0, 4, 1}, {0, 2, 2, -1, -1, 4, 0}, {1, 2, 1, 0, 4, -1, 0},
            {0, 2, 0, -1, -1, -1, 0}};
        for (int trip = 0; trip < due.length; trip++) {
            for (int what = 0; what <= 6; what++) {
                same("trip(" + trip + ", " + what + ")", due[trip][what], x.trip(trip, what));
            }
        }
        sentence = "10 and k: the k-th LAND of its ROW (from 0)";
        int[] row = {0, 1, 2, -1, -1, -1, -1};
        for (int k = 0; k < row.length; k++) {
            same("trip(1, " + (10 + k) + ")", row[k], x.trip(1, 10 + k));
        }
        same("behind a shorter row", -1, x.trip(0, 12));
        sentence = "trip: NONE: none such, another what";
        for (int no : NO_SUCH) {
            same("trip(" + no + ", 0)", -1, x.trip(no, 0));
            same("trip(" + no + ", 10)", -1, x.trip(no, 10));
            same("trip(0, " + no + ")", -1, x.trip(0, no));
        }
        for (int what = 7; what <= 9; what++) {
            same("trip(1, " + what + ")", -1, x.trip(1, what));
        }
        refused("trip(5, 0)", -1, y -> y.trip(5, 0));
        refused("trip(0, 7)", -1, y -> y.trip(0, 7));
        // 10 and k would be wrapped round.
        refused("trip(0, LEAST + 9)", -1, y -> y.trip(0, LEAST + 9));
    }

    // ---- promises 11 to 17

    private static void fits() {
        sentence = "fits: False: no such ones";
        PermitOffice x = lived();
        same("a done one", 1, of(x.fits(0, 0)));
        same("a waiting one", 1, of(x.fits(0, 4)));
        same("too weak", 0, of(x.fits(1, 4)));
        same("strong", 1, of(x.fits(1, 3)));
        for (int no : NO_SUCH) {
            same("fits(" + no + ", 0)", 0, of(x.fits(no, 0)));
            same("fits(0, " + no + ")", 0, of(x.fits(0, no)));
            same("fits(" + no + ", " + no + ")", 0, of(x.fits(no, no)));
        }
        refused("fits(2, 0)", 0, y -> of(y.fits(2, 0)));
        refused("fits(0, 5)", 0, y -> of(y.fits(0, 5)));
    }

    private static void plan() {
        sentence = "10 and t: the type for TRIP t (NONE: none; it does not WAIT)";
        PermitOffice x = lived();
        same("it waits", 0, x.plan(14));
        same("out", -1, x.plan(13));
        same("dropped", -1, x.plan(12));
        same("done late", -1, x.plan(11));
        same("done", -1, x.plan(10));
        same("no such trip", -1, x.plan(15));
        same("the last there could be", -1, x.plan(49));
        x.assign();
        x.home(0);
        x.ask(0, 10, 2);
        same("none is free", -1, x.plan(15));
        same("served", 0, x.plan(0));
        same("cost of none", 0, x.plan(1));
        sentence = "plan: NONE: another what";
        for (int what : new int[] {-1, -10, 2, 3, 9, 50, 99, LEAST, LEAST + 9, LEAST + 10, MOST, MOST - 1}) {
            refused("plan(" + what + ")", -1, y -> y.plan(what));
        }
        sentence = "The PLAN as it would be now";
        refused("plan(0)", 1, y -> y.plan(0));
        refused("plan(1)", 5, y -> y.plan(1));
        refused("plan(14)", 0, y -> y.plan(14));
    }

    private static void served() {
        sentence = "had a type FREE less or more by so many (-99 to 99; 0 at least)";
        PermitOffice x = Check.office("lands 2 1;border 0 1;type multi 1 1 3 1 1;type shared 9 1 1 9 1 1;"
                + "lorry 0 1;".repeat(8));
        for (int lorry = 0; lorry < 8; lorry++) {
            x.ask(lorry, 10, 2);
        }
        same("enough", 8, x.served(0, -99));
        same("81 less 99 are none", 3, x.served(1, -99));
        same("81 less 81", 3, x.served(1, -81));
        same("81 less 80", 4, x.served(1, -80));
        same("81 less 76", 8, x.served(1, -76));
        same("81 less 77", 7, x.served(1, -77));
        same("and 99", 8, x.served(1, 99));
        same("free stays", 81, x.type(1, 7));
        x = lived();
        same("just as now", 1, x.served(0, 0));
        same("one less", 0, x.served(0, -1));
        same("two less", 0, x.served(0, -2));
        same("99 less", 0, x.served(0, -99));
        same("of no use", 1, x.served(1, 99));
        same("of no use", 1, x.served(1, -99));
        x.assign();
        same("none waits", 0, x.served(0, 99));
        sentence = "served: NONE: no such ones";
        for (int no : NO_SUCH) {
            same("served(" + no + ", 0)", -1, x.served(no, 0));
        }
        for (int more : new int[] {-100, 100, 101, -101, 1 << 16, LEAST, MOST}) {
            refused("served(0, " + more + ")", -1, y -> y.served(0, more));
        }
        refused("served(2, 0)", -1, y -> y.served(2, 0));
        refused("served(-1, 0)", -1, y -> y.served(-1, 0));
        sentence = "How many TRIPS the PLAN would serve";
        refused("served(0, -1)", 0, y -> y.served(0, -1));
        refused("served(0, 99)", 1, y -> y.served(0, 99));
    }

    private static void needs() {
        sentence = "The fewest further FREE ones of a type by which the PLAN would serve all TRIPS that WAIT"
                + " (0: it does); -2: by none";
        PermitOffice x = Check.office("lands 3 1;border 0 1;border 0 2;type multi 1 1 0 1 1;type multi 6 1 0 1 1;"
                + "type multi 1 1 0 1 2;" + "lorry 0 1;".repeat(8));
        same("none waits", 0, x.needs(0));
        same("none waits, of no use", 0, x.needs(1));
        for (int lorry = 0; lorry < 8; lorry++) {
            x.ask(lorry, 10, 2);
            same("all of " + (lorry + 1), lorry + 1, x.needs(0));
        }
        same("by none", -2, x.needs(1));
        same("by none", -2, x.needs(2));
        x.undo();
        x.ask(7, 20, 2);
        same("one goes elsewhere", -2, x.needs(0));
        same("the others do", -2, x.needs(2));
        x = lived();
        same("it does", 0, x.needs(0));
        same("it does, without this type", 0, x.needs(1));
        sentence = "needs: NONE: no such one";
        for (int no : NO_SUCH) {
            same("needs(" + no + ")", -1, x.needs(no));
        }
        same("needs(6)", -1, x.needs(6));
        refused("needs(2)", -1, y -> y.needs(2));
        refused("needs(0)", 0, y -> y.needs(0));
    }

    private static void free() {
        sentence = "FREE of all types together that are for a LAND and fit an ENGINE (1 to 6)";
        PermitOffice x = lived();
        same("weak", 1, x.free(1, 1));
        same("as strong as the other", 3, x.free(1, 2));
        same("strongest", 3, x.free(1, 6));
        same("one type's land", 1, x.free(2, 6));
        same("no type's land", 0, x.free(3, 6));
        same("no type's land", 0, x.free(0, 1));
        PermitOffice all = Check.office("lands 1 1;" + "type shared 9 1 1 9 1 0;".repeat(6));
        same("the most there can be", 486, all.free(0, 1));
        sentence = "free: NONE: no such ones";
        for (int no : NO_SUCH) {
            same("free(" + no + ", 1)", -1, x.free(no, 1));
            same("free(1, " + no + ")", -1, x.free(1, no));
        }
        refused("free(4, 1)", -1, y -> y.free(4, 1));
        refused("free(1, 0)", -1, y -> y.free(1, 0));
        refused("free(1, 7)", -1, y -> y.free(1, 7));
    }

    private static void shortest() {
        sentence = "shortest ROW for which one type FITS, whatever is FREE (2 to 8); -2: none";
        StringBuilder text = new StringBuilder("lands 8 1;");
        for (int land = 1; land < 8; land++) {
            text.append("border ").append(land - 1).append(' ').append(land).append(';');
        }
        PermitOffice x = Check.office(text + "type single 2 1 0 1 1 2 3 4 5 6 7;lorry 0 2;lorry 0 1;lorry 1 6;");
        same("two", 2, x.shortest(0, 1));
        same("six", 6, x.shortest(0, 5));
        same("seven", 7, x.shortest(0, 6));
        same("eight", 8, x.shortest(0, 7));
        same("too weak", -2, x.shortest(1, 1));
        same("not for the land", -2, x.shortest(2, 0));
        same("the other way", 2, x.shortest(2, 2));
        sentence = "shortest: NONE: no such ones, HOME itself";
        same("home", -1, x.shortest(0, 0));
        same("home of the other", -1, x.shortest(2, 1));
        same("home, too weak", -1, x.shortest(1, 0));
        for (int no : NO_SUCH) {
            same("shortest(" + no + ", 1)", -1, x.shortest(no, 1));
            same("shortest(0, " + no + ")", -1, x.shortest(0, no));
        }
        same("no lorry 3", -1, x.shortest(3, 1));
        refused("shortest(2, 1)", -1, y -> y.shortest(2, 1));
        refused("shortest(0, 4)", -1, y -> y.shortest(0, 4));
        refused("shortest(0, 0)", -1, y -> y.shortest(0, 0));
        refused("shortest(0, 3)", -2, y -> y.shortest(0, 3));
    }

    private static void lawful() {
        sentence = "if a lorry were stopped in a LAND now (nothing is booked)";
        refused("lawful(0, 0)", 1, x -> x.lawful(0, 0));
        refused("lawful(1, 0)", 0, x -> x.lawful(1, 0));
        refused("lawful(1, 2)", 2, x -> x.lawful(1, 2));
        PermitOffice x = lived();
        x.pass(3);
        same("in time", 0, x.lawful(1, 1));
        x.pass(1);
        same("late", 3, x.lawful(1, 1));
        same("late off its row", 2, x.lawful(1, 3));
        same("nothing is booked", 2, x.now(8));
        sentence = "lawful: NONE: no such ones";
        for (int no : NO_SUCH) {
            same("lawful(" + no + ", 0)", -1, x.lawful(no, 0));
            same("lawful(1, " + no + ")", -1, x.lawful(1, no));
        }
        refused("lawful(2, 0)", -1, y -> y.lawful(2, 0));
        refused("lawful(1, 4)", -1, y -> y.lawful(1, 4));
    }

    // ---- promises 18 to 25

    private static void ask() {
        sentence = "the decimal digits of row from the lowest on (of 4 4321: 1, 2, 3, 4; 21: 1, 2, 0, 0)";
        PermitOffice x = Check.office("lands 5 1;border 1 2;border 2 3;border 3 4;border 2 0;lorry 1 1;lorry 2 1;");
        same("4321 of 4", 0, x.ask(0, 4321, 4));
        for (int k = 0; k < 4; k++) {
            same("4321 at " + k, k + 1, x.trip(0, 10 + k));
        }
        x.undo();
        same("21 of 4", -1, x.ask(0, 21, 4));
        same("21 of 3", 0, x.ask(0, 21, 3));
        same("the first of 21", 1, x.trip(0, 10));
        same("the second of 21", 2, x.trip(0, 11));
        same("the third of 21", 0, x.trip(0, 12));
        same("2 of 2", 1, x.ask(1, 2, 2));
        x.undo();
        x.undo();
        same("21 of 2", 0, x.ask(0, 21, 2));

        sentence = "ask: NONE: no such lorry";
        for (int no : new int[] {-1, 2, 8, 32, LEAST, MOST}) {
            refused("ask(" + no + ", 10, 2)", -1, y -> y.ask(no, 10, 2));
        }
        sentence = "ask: NONE: many not 2 to 6";
        for (int many : new int[] {1, 0, -1, 7, 8, LEAST, MOST}) {
            refused("ask(0, 10, " + many + ")", -1, y -> y.ask(0, 10, many));
        }
        sentence = "ask: NONE: row below 0 or of more digits";
        for (int row : new int[] {-1, -10, 110, 210, 1000000010, MOST, LEAST}) {
            refused("ask(0, " + row + ", 2)", -1, y -> y.ask(0, row, 2));
        }
        sentence = "ask: NONE: a ROW that can't be";
        for (int row : new int[] {0, 1, 11, 20, 30, 40, 80, 90}) {
            refused("ask(0, " + row + ", 2)", -1, y -> y.ask(0, row, 2));
        }
        sentence = "ask: -2: the lorry has a TRIP that WAITS or is OUT";
        refused("ask(0, 10, 2)", -2, y -> y.ask(0, 10, 2));
        refused("ask(1, 210, 3)", -2, y -> y.ask(1, 210, 3));
        fortyTrips();
    }

    private static void fortyTrips() {
        sentence = "ask: -3: 40 TRIPS ever were (the first that is so)";
        PermitOffice x = Check.office(TEXT);
        for (int trip = 0; trip < 40; trip++) {
            same("ask", trip, x.ask(trip % 2, 10, 2));
            if (trip < 39) {
                x.drop(trip);
            }
        }
        int acts = x.now(9);
        same("one more", -3, x.ask(0, 10, 2));
        same("it has one", -2, x.ask(1, 10, 2));
        same("a wrong row", -1, x.ask(1, 20, 2));
        same("no such lorry", -1, x.ask(2, 10, 2));
        same("no act", acts, x.now(9));
        same("trips", 40, x.now(4));
        same("no trip of the other", -1, x.lorry(0, 2));
        same("the last of all", 0, x.plan(49));
        same("and none behind", -1, x.plan(50));
        same("its lorry", 1, x.trip(39, 0));
        same("no other", -1, x.trip(40, 0));
        same("served", 1, x.assign());
        same("home", 0, x.home(1));
        same("done, but 40 were", -3, x.ask(1, 10, 2));
    }

    private static void drop() {
        sentence = "it is DONE, without type, on TODAY, not LATE: true";
        PermitOffice x = lived();
        x.pass(99);
        same("drop", 1, of(x.drop(4)));
        int[] due = {0, 2, 2, -1, -1, 103, 0};
        for (int what = 0; what < due.length; what++) {
            same("trip(4, " + what + ")", due[what], x.trip(4, what));
        }
        same("no misuse", 1, x.lorry(0, 3));
        sentence = "drop: False: none such, it does not WAIT";
        for (int trip : new int[] {0, 1, 2, 3, 5, 40, -1, 32 + 4, LEAST, LEAST + 4, MOST}) {
            refused("drop(" + trip + ")", 0, y -> of(y.drop(trip)));
        }
    }

    private static void assign() {
        sentence = "All that WAIT are ASSIGNED by the PLAN: how many are served";
        PermitOffice x = lived();
        same("one", 1, x.assign());
        same("none waits", 0, x.assign());
        same("an act all the same", 10, x.now(9));
        PermitOffice none = Check.office("lands 2 1;border 0 1;type multi 1 1 0 1 1;lorry 0 1;");
        none.ask(0, 10, 2);
        same("none is free", 0, none.assign());
        same("it waits", 0, none.trip(0, 2));
        PermitOffice all = Check.office("lands 2 1;border 0 1;type multi 1 1 9 1 1;" + "lorry 0 1;".repeat(8));
        for (int lorry = 0; lorry < 8; lorry++) {
            all.ask(lorry, 10, 2);
        }
        same("all of eight", 8, all.assign());
        same("one is left", 1, all.type(0, 7));
    }

    private static void home() {
        sentence = "A lorry comes HOME: how many DAYS it was OUT";
        PermitOffice x = lived();
        same("on the same day", 0, x.home(1));
        x = lived();
        x.pass(99);
        same("99 days later", 99, x.home(1));
        same("lost", 2, x.ledger(0, 3));
        same("a misuse more", 2, x.lorry(1, 3));
        sentence = "home: NoSuchElementException: no such one, it has no TRIP that is OUT";
        for (int no : new int[] {-1, 2, 8, 32 + 1, LEAST, LEAST + 1, MOST}) {
            refused("home(" + no + ")", THROWS, y -> homeOf(y, no));
        }
        refused("home of one that waits", THROWS, y -> homeOf(y, 0));
        x = lived();
        x.home(1);
        same("home twice", THROWS, homeOf(x, 1));
        x.drop(4);
        same("dropped", THROWS, homeOf(x, 0));
        same("never asked", THROWS, homeOf(Check.office(TEXT), 0));
    }

    private static void stop() {
        sentence = "stop: NONE: no such ones";
        for (int no : NO_SUCH) {
            refused("stop(" + no + ", 1)", -1, y -> y.stop(no, 1));
            refused("stop(1, " + no + ")", -1, y -> y.stop(1, no));
        }
        refused("stop(2, 0)", -1, y -> y.stop(2, 0));
        refused("stop(0, 4)", -1, y -> y.stop(0, 4));
        sentence = "STOPPED in a LAND";
        PermitOffice x = lived();
        same("lawful", 0, x.stop(1, 1));
        same("none is booked", 1, x.lorry(1, 3));
        same("off its row, the last land", 2, x.stop(1, 3));
        same("booked", 2, x.lorry(1, 3));
    }

    private static void handBack() {
        sentence = "n SPENT pieces of a type (1 or more) are HANDED BACK: how many came IN by it";
        PermitOffice x = lived();
        same("the one", 0, x.handBack(0, 1));
        same("spent", 0, x.ledger(0, 2));
        same("back", 1, x.ledger(0, 4));
        x.home(1);
        same("the second", 1, x.handBack(0, 1));
        same("reissued", 1, x.ledger(0, 5));
        sentence = "handBack: NONE: no such type";
        for (int no : new int[] {-1, 2, 6, 32, LEAST, MOST}) {
            refused("handBack(" + no + ", 1)", -1, y -> y.handBack(no, 1));
        }
        sentence = "handBack: NONE: not so many are SPENT, n below 1";
        for (int n : new int[] {2, 3, 1 << 16, MOST, 0, -1, LEAST, LEAST + 1}) {
            refused("handBack(0, " + n + ")", -1, y -> y.handBack(0, n));
        }
        refused("handBack of a shared one", -1, y -> y.handBack(1, 1));
    }

    private static void pass() {
        sentence = "So many DAYS pass (1 to 99): TODAY";
        PermitOffice x = new PermitOffice();
        same("one", 1, x.pass(1));
        same("99", 100, x.pass(99));
        sentence = "pass: NONE: not so many";
        for (int days : new int[] {0, -1, -99, 100, 101, 1 << 16, MOST, MOST - 3, LEAST, LEAST + 1}) {
            refused("pass(" + days + ")", -1, y -> y.pass(days));
        }
        sentence = "pass: NONE: TODAY would be above 999";
        for (int k = 0; k < 9; k++) {
            x.pass(99);
        }
        same("today", 991, x.now(0));
        int acts = x.now(9);
        same("1090", -1, x.pass(99));
        same("1000", -1, x.pass(9));
        same("nothing is changed", 991, x.now(0));
        same("no act", acts, x.now(9));
        same("999", 999, x.pass(8));
        same("1000", -1, x.pass(1));
        same("undone", 9, x.undo());
        same("as it was", 991, x.now(0));
        same("998", 998, x.pass(7));
        same("999 again", 999, x.pass(1));
    }

    private static void undo() {
        sentence = "how many more can be (10 at most are kept); NONE: none is";
        PermitOffice x = new PermitOffice();
        same("none", -1, x.undo());
        for (int acts = 1; acts <= 23; acts++) {
            x = new PermitOffice();
            for (int k = 0; k < acts; k++) {
                x.pass(k + 1);
            }
            int kept = Math.min(10, acts);
            same("kept of " + acts, kept, x.now(9));
            for (int k = 1; k <= kept; k++) {
                same("undo " + k + " of " + acts, kept - k, x.undo());
                same("can be undone", kept - k, x.now(9));
                int left = acts - k;
                same("today", left * (left + 1) / 2, x.now(0));
            }
            int day = x.now(0);
            same("none more of " + acts, -1, x.undo());
            same("nothing is changed", day, x.now(0));
            same("no act", 0, x.now(9));
        }
        undoneOneByOne();
        sentence = "an assign() that served none, a stop() that told 0, too";
        x = lived();
        x.assign();
        String before = Sight.ofBooks(x);
        same("none waits", 0, x.assign());
        same("told 0", 0, x.stop(1, 1));
        same("the stop alone", 9, x.undo());
        same("the assign alone", 8, x.undo());
        Check.yes("\"" + sentence + "\"", before.equals(Sight.ofBooks(x)));
    }

    private static void undoneOneByOne() {
        sentence = "The latest ask(), drop(), assign(), home(), stop(), handBack(), pass() is undone";
        undone("ask", x -> {
            x.home(1);
            return x.ask(1, 210, 3) - 5;
        });
        undone("drop", x -> {
            x.pass(1);
            return x.drop(4) ? 0 : 1;
        });
        undone("assign", x -> {
            x.pass(1);
            return x.assign() - 1;
        });
        undone("home in time", x -> {
            x.pass(1);
            return x.home(1) - 1;
        });
        undone("home late", x -> {
            x.pass(9);
            return x.home(1) - 9;
        });
        undone("stop", x -> {
            x.pass(1);
            return x.stop(0, 1) - 1;
        });
        undone("handBack", x -> {
            x.pass(1);
            return x.handBack(0, 1);
        });
        undone("handBack by which one came in", x -> {
            x.home(1);
            return x.handBack(0, 2) - 1;
        });
        undone("pass", x -> {
            x.pass(1);
            return x.pass(99) - 104;
        });
    }

    /** Two acts, of which the second answers 0 here; both are undone, and all is as it was. */
    private static void undone(String act, ToLongFunction<PermitOffice> made) {
        PermitOffice x = lived();
        same(act + " is no refused one", 0, made.applyAsLong(x));
        String between = Sight.ofBooks(x);
        same(act, 9, x.undo());
        Check.no("\"" + sentence + "\": " + act + " had changed something", between.equals(Sight.ofBooks(x)));
        same("the one ahead", 8, x.undo());
        PermitOffice y = lived();
        Check.yes("\"" + sentence + "\": " + act, Sight.ofBooks(y).equals(Sight.ofBooks(x)));
    }
}
