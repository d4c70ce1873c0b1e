/**
 * The document's Terms, a test for each sentence that names a boundary: what is just right, and what
 * is one too small or too large. The words in quotation marks are the document's.
 */
public final class TermsEdgeTest {
    private static final String LANDS = "lands 3 2;";
    /** Two LANDS with a border between them. */
    private static final String PAIR = "lands 2 1;border 0 1;";
    private static final String ROAD = "lands 8 1;border 0 1;border 1 2;border 2 3;border 3 4;border 4 5;border 5 6;"
            + "border 6 7;";

    private static String sentence;

    public static void main(String[] args) {
        tokens();
        lines();
        faults();
        pieces();
        trips();
        plans();
        late();
        stopped();
        handedBack();
        anew();
        Check.end("TermsEdgeTest");
    }

    private static void same(String what, long want, long got) {
        Check.same("\"" + sentence + "\": " + what, want, got);
    }

    private static void right(String text, int lines) {
        PermitOffice x = new PermitOffice();
        same(text, lines, Check.tell(x, text));
        same("fault of " + text, 0, x.fault());
    }

    private static void wrong(String text, int place, int kind) {
        PermitOffice x = new PermitOffice();
        same(text, -1 - place, Check.tell(x, text));
        same("fault of " + text, kind, x.fault());
    }

    /** A LINE behind 'lands 3 2;' that is wrong at its last TOKEN ahead of the sign. */
    private static void wrongLine(String line, int kind) {
        int last = line.lastIndexOf(' ') + 1;
        wrong(LANDS + line, LANDS.length() + last, kind);
    }

    // ---- TOKENS

    private static void tokens() {
        sentence = "with blanks (32, 10) between them or not";
        right("lands 1 1;lorry 0 1;", 2);
        right("lands 1 1 ; lorry 0 1 ;", 2);
        right("\n\nlands\n1\n1\n;\nlorry\n0\n1\n;\n\n", 2);
        for (char sign = 0; sign < 256; sign++) {
            if (sign == ' ' || sign == '\n') {
                right("lands 1" + sign + "1;", 1);
            } else if (sign >= '0' && sign <= '9') {
                wrong("lands 1" + sign + "1;", 6, 1);
            } else if (sign >= 'a' && sign <= 'z') {
                wrong("lands 1" + sign + "1;", 6, 1);
            } else {
                wrong("lands 1" + sign + "1;", 7, 1);
            }
        }

        sentence = "WORDS: small letters";
        wrong("lanDs 1 1;", 0, 1);
        wrong("land_s 1 1;", 0, 1);
        wrong("LANDS 1 1;", 0, 1);
        wrong("l\u00e4nds 1 1;", 0, 1);

        sentence = "NUMBERS: 1 or 2 digits";
        right("lands 1 1;", 1);
        right("lands 01 01;", 1);
        wrong("lands 001 1;", 6, 1);
        wrong("lands 1 001;", 8, 1);
        wrong("lands 00000000000000000000 1;", 6, 1);
        // 2 to the 32nd and 1, which is no 1.
        wrong("lands 4294967297 1;", 6, 1);

        sentence = "A WORD, NUMBER goes on as long as small letters and digits do";
        wrong("lands1 1;", 0, 1);
        wrong("lands 1lorry 1;", 6, 1);
        wrong("lands 1 1lorry 0 1;", 8, 1);
        wrong("landslands 1 1;", 0, 1);
        right("lands 1 1;lorry 0 1;lorry 0 1;", 3);
    }

    // ---- LINES

    private static void lines() {
        linesOfLands();
        linesOfBorders();
        linesOfTypes();
        linesOfLorries();
    }

    private static void linesOfLands() {
        sentence = "The first LINE: 'lands'";
        wrong("border 0 1;lands 2 1;", 0, 1);
        wrong("type single 1 1 1 1 0;lands 2 1;", 0, 1);
        wrong("lorry 0 1;lands 2 1;", 0, 1);
        wrong("lands 2 1;lands 2 1;", 10, 1);

        sentence = "N (1 to 8)";
        wrong("lands 0 1;", 6, 2);
        for (int n = 1; n <= 8; n++) {
            PermitOffice x = Check.office("lands " + n + " 1;");
            same("lands", n, x.now(1));
        }
        wrong("lands 9 1;", 6, 2);
        wrong("lands 99 1;", 6, 2);

        sentence = "REISSUE (1 to 9)";
        wrong("lands 8 0;", 8, 2);
        for (int n = 1; n <= 9; n++) {
            right("lands 8 " + n + ";", 1);
        }
        wrong("lands 8 10;", 8, 2);

        sentence = "LANDS are 0 to N - 1";
        for (int n = 1; n <= 8; n++) {
            right("lands " + n + " 1;lorry 0 1;", 2);
            right("lands " + n + " 1;lorry " + (n - 1) + " 1;", 2);
            wrong("lands " + n + " 1;lorry " + n + " 1;", 16, 2);
            wrong("lands " + n + " 1;type multi 1 1 1 1 " + n + ";", 29, 2);
        }
        // Numbers whose bits are those of LANDS.
        wrongLine("border 0 33;", 2);
        wrongLine("border 32;", 2);
        wrongLine("type multi 1 1 1 1 0 64;", 2);
        wrongLine("type multi 1 1 1 1 32;", 2);
    }

    private static void linesOfBorders() {
        sentence = "'border' LAND LAND (two unlike ones)";
        wrongLine("border 0 0;", 2);
        wrongLine("border 2 2;", 2);
        wrongLine("border 2 02;", 2);
        wrong("lands 1 1;border 0 0;", 19, 2);
        right(LANDS + "border 2 0;", 2);

        sentence = "28 LINES at most";
        right(LANDS + "border 0 1;".repeat(28), 29);
        wrong(LANDS + "border 0 1;".repeat(29), 10 + 28 * 11, 3);
        StringBuilder all = new StringBuilder("lands 8 1;");
        for (int one = 0; one < 8; one++) {
            for (int other = one + 1; other < 8; other++) {
                all.append("border ").append(one).append(' ').append(other).append(';');
            }
        }
        PermitOffice x = Check.office(all.toString());
        same("all borders of eight lands", 28, x.now(7));
        wrong(all + "border 1 0;", all.length(), 3);

        sentence = "told twice it is one border";
        same("the same again", 1, Check.office(LANDS + "border 0 1;border 0 1;").now(7));
        same("the other way round", 1, Check.office(LANDS + "border 0 1;border 1 0;").now(7));
        same("one of three", 2, Check.office(LANDS + "border 0 1;border 1 2;border 0 1;").now(7));
    }

    private static void linesOfTypes() {
        sentence = "'shared' PLACES (PLACES 2 to 9)";
        wrongLine("type shared 0;", 2);
        wrongLine("type shared 1;", 2);
        for (int places = 2; places <= 9; places++) {
            PermitOffice x = Check.office(LANDS + "type shared " + places + " 1 1 1 1 1;");
            same("places", places, x.type(0, 1));
        }
        wrongLine("type shared 10;", 2);

        sentence = "ENGINE 1 to 6";
        for (String kind : new String[] {"single", "multi", "shared 2"}) {
            wrongLine("type " + kind + " 0;", 2);
            right(LANDS + "type " + kind + " 1 1 1 1 1;", 2);
            right(LANDS + "type " + kind + " 6 1 1 1 1;", 2);
            wrongLine("type " + kind + " 7;", 2);
        }

        sentence = "COST 0 to 99";
        same("least", 0, Check.office(LANDS + "type multi 1 0 1 1 1;").type(0, 3));
        same("most", 99, Check.office(LANDS + "type multi 1 99 1 1 1;").type(0, 3));
        wrongLine("type multi 1 100;", 1);

        sentence = "COUNT 0 to 9";
        same("least", 0, Check.office(LANDS + "type multi 1 1 0 1 1;").type(0, 4));
        same("most", 9, Check.office(LANDS + "type multi 1 1 9 1 1;").type(0, 4));
        wrongLine("type multi 1 1 10;", 2);

        sentence = "STAY 0 to 99";
        same("least", 0, Check.office(LANDS + "type multi 1 1 1 0 1;").type(0, 5));
        same("most", 99, Check.office(LANDS + "type multi 1 1 1 99 1;").type(0, 5));
        wrongLine("type multi 1 1 1 100;", 1);

        sentence = "LAND { LAND } (unlike LANDS)";
        wrong(LANDS + "type multi 1 1 1 1;", 28, 1);
        same("one", 4, Check.office(LANDS + "type multi 1 1 1 1 2;").type(0, 6));
        same("all", 255, Check.office("lands 8 1;type multi 1 1 1 1 7 6 5 4 3 2 1 0;").type(0, 6));
        wrongLine("type multi 1 1 1 1 1 1;", 2);
        wrongLine("type multi 1 1 1 1 1 0 1;", 2);
        wrongLine("type multi 1 1 1 1 1 0 2 00;", 2);

        sentence = "types: 6 at most, numbered from 0";
        PermitOffice x = Check.office(LANDS + "type multi 1 1 1 1 1;".repeat(5) + "type single 6 5 4 3 2;");
        same("six", 6, x.now(2));
        same("the last", 6, x.type(5, 2));
        same("the first", 1, x.type(0, 2));
        wrong(LANDS + "type multi 1 1 1 1 1;".repeat(6) + "type single 6 5 4 3 2;", 10 + 6 * 21, 3);
    }

    private static void linesOfLorries() {
        sentence = "'lorry' HOME ENGINE (a LAND; 1 to 6)";
        wrongLine("lorry 3;", 2);
        wrongLine("lorry 0 0;", 2);
        wrongLine("lorry 0 7;", 2);
        PermitOffice x = Check.office(LANDS + "lorry 0 1;lorry 2 6;lorry 1 1;lorry 2 2;");
        same("least home", 0, x.lorry(0, 0));
        same("least engine", 1, x.lorry(0, 1));
        same("most home", 2, x.lorry(1, 0));
        same("most engine", 6, x.lorry(1, 1));
        same("an engine like the home", 1, x.lorry(2, 1));

        sentence = "lorries: 8 at most, numbered from 0";
        x = Check.office(LANDS + "lorry 0 1;".repeat(7) + "lorry 2 6;");
        same("eight", 8, x.now(3));
        same("the last", 6, x.lorry(7, 1));
        wrong(LANDS + "lorry 0 1;".repeat(9), 90, 3);
    }

    // ---- FAULTS

    private static void faults() {
        sentence = "A TEXT has at most 700 bytes";
        right(" ".repeat(690) + "lands 1 1;", 1);
        right(" ".repeat(700), 0);
        wrong(" ".repeat(691) + "lands 1 1;", 700, 1);
        wrong("lands 1 1;" + "\n".repeat(691), 700, 1);
        wrong("lands 1 1;" + "\n".repeat(730), 700, 1);

        sentence = "FAULTS, the first along the text";
        wrong("lands 9 0;", 6, 2);
        wrong("lands 1 0;?", 8, 2);
        wrong("lands 1 1;?lorry 0 7;", 10, 1);
        wrong("lands 1 1;lorry 0 7;?", 18, 2);
        wrong("lands 1 1;" + "lorry 0 1;".repeat(8) + "lorry 1 1;", 90, 3);
        wrong("lands 1 1;" + "lorry 0 1;".repeat(8) + "type multi 0;" + "lorry 0 1;", 101, 2);

        sentence = "1 no TOKEN, or one that can't come (at it)";
        cannotCome();

        sentence = "of one TOKEN the one that stands first in this list";
        wrong("lands 1 1;lorry 0 9;", 18, 2);
        wrong("lands 1 1;lorry 0 999;", 18, 1);
        wrong("lands 1 1;lorry 0 1 9;", 20, 1);
        wrong("lands 1 1;" + "lorry 0 1;".repeat(8) + "lorry9 0 1;", 90, 1);

        sentence = "the end: how many bytes there are";
        wrong("lands 1 1;lorry", 15, 1);
        wrong("lands 1 1;lorry 0 1", 19, 1);
        wrong("lands 1 1;lorry 0 1 \n ", 22, 1);
        wrong("lands 1 1;type", 14, 1);
        wrong("lands", 5, 1);
        wrong("lands 1 1;lorry 0 1" + " ".repeat(681), 700, 1);

        sentence = "700, if there are more and no FAULT is ahead";
        wrong("lands 1 1;" + " ".repeat(691), 700, 1);
        wrong("lands 1 1;lorry 0 1" + " ".repeat(682), 700, 1);
        wrong("lands 1 1;" + " ".repeat(690) + "?", 700, 1);
        wrong("lands 1 1;" + " ".repeat(689) + "?" + " ", 699, 1);
        wrong("lands 1 1;lorry 0 7;" + " ".repeat(700), 18, 2);

        sentence = "TOKENS that begin ahead of it are read whole";
        wrong("lands 1 1;" + " ".repeat(689) + "lorry 0 1;", 700, 1);
        wrong("lands 1 1;" + " ".repeat(689) + "lorrx 0 1;", 699, 1);
        wrong("lands 1 1;" + " ".repeat(689) + "lorry0 1;", 699, 1);
        wrong("lands 1 1;lorry 0" + " ".repeat(682) + "12;", 699, 2);
        wrong("lands 1 1;lorry 0" + " ".repeat(682) + "01;", 700, 1);
        wrong("lands 1 1;lorry 0" + " ".repeat(682) + "1a;", 699, 1);
        wrong("lands 1 1;lorry 0 1" + " ".repeat(680) + ";;", 700, 1);

        sentence = "one more LINE of a sort than told (at its WORD)";
        wrong("lands 1 1;" + "lorry 0 1;".repeat(8) + "\n lorry", 92, 3);
        wrong(LANDS + "type multi 1 1 1 1 1;".repeat(6) + " type", 137, 3);
        wrong(LANDS + "border 0 1;".repeat(28) + " border", 319, 3);
        // Other sorts may still come when one is full.
        right(LANDS + "lorry 0 1;".repeat(8) + "type multi 1 1 1 1 1;border 0 1;", 11);
    }

    /** In each place of each LINE, what can't come there: a WORD, a NUMBER, the sign, no TOKEN. */
    private static void cannotCome() {
        String[][] lines = {{"border", "0", "1", ";"}, {"lorry", "0", "1", ";"},
            {"type", "single", "1", "1", "1", "1", "0", ";"}, {"type", "multi", "1", "1", "1", "1", "0", ";"},
            {"type", "shared", "2", "1", "1", "1", "1", "0", ";"}};
        for (String[] line : lines) {
            StringBuilder ahead = new StringBuilder(LANDS);
            for (String token : line) {
                boolean number = Character.isDigit(token.charAt(0));
                boolean sign = token.equals(";");
                for (String other : new String[] {"x", "lands", "typ", "types", "1x", "x1", "111", "-", ":", "\t"}) {
                    wrong(ahead + other, ahead.length(), 1);
                }
                if (!number && !(sign && line[0].equals("type"))) {
                    wrong(ahead + "1 ", ahead.length(), 1);
                }
                if (number || !sign) {
                    wrong(ahead + ";", ahead.length(), 1);
                }
                if (number || sign) {
                    wrong(ahead + "border ", ahead.length(), 1);
                    wrong(ahead + "single ", ahead.length(), 1);
                }
                if (ahead.length() > LANDS.length()) {
                    // The end is where the bytes end, behind the blanks.
                    wrong(ahead.toString(), ahead.length(), 1);
                }
                ahead.append(token).append(' ');
            }
            right(ahead.toString(), 2);
        }
    }

    // ---- PIECES

    private static PermitOffice fleet(String types, int lorries) {
        PermitOffice x = Check.office(PAIR + types + "lorry 0 1;".repeat(8));
        for (int lorry = 0; lorry < lorries; lorry++) {
            x.ask(lorry, 10, 2);
        }
        x.assign();
        return x;
    }

    private static void pieces() {
        sentence = "COUNT are IN the office at first";
        PermitOffice x = Check.office(PAIR + "type single 1 1 0 1 1;type shared 9 1 1 9 1 1;");
        same("none", 0, x.ledger(0, 0));
        same("none free", 0, x.type(0, 7));
        same("nine", 9, x.ledger(1, 0));
        same("nine times nine places", 81, x.type(1, 7));

        sentence = "FREE of a type: IN times PLACES ('single', 'multi': 1)";
        x = fleet("type single 1 0 3 1 1;type multi 1 9 2 1 1;", 5);
        same("no single", 0, x.type(0, 7));
        same("no multi", 0, x.type(1, 7));
        same("three are out", 3, x.ledger(0, 1));
        same("two are out", 2, x.ledger(1, 1));
        x.home(0);
        x.home(3);
        same("a spent single is not free", 0, x.type(0, 7));
        same("a multi is", 1, x.type(1, 7));

        sentence = "as many pieces are OUT as the lorries out with that type need: rounded up";
        int[] out = {0, 1, 1, 1, 2, 2, 2, 3, 3};
        for (int lorries = 0; lorries <= 8; lorries++) {
            x = fleet("type shared 3 1 1 3 1 1;", lorries);
            same("out of " + lorries, out[lorries], x.ledger(0, 1));
            same("in of " + lorries, 3 - out[lorries], x.ledger(0, 0));
            same("free of " + lorries, 9 - lorries, x.type(0, 7));
        }
        for (int lorry = 0; lorry < 8; lorry++) {
            x.home(lorry);
            same("out, home " + lorry, out[7 - lorry], x.ledger(0, 1));
            same("in, home " + lorry, 3 - out[7 - lorry], x.ledger(0, 0));
            same("free, home " + lorry, 2 + lorry, x.type(0, 7));
        }
    }

    // ---- TRIPS

    private static void trips() {
        sentence = "a ROW of 2 to 6 LANDS";
        PermitOffice x = Check.office(ROAD + "lorry 0 1;lorry 7 1;lorry 0 1;");
        same("one", -1, x.ask(0, 0, 1));
        same("seven", -1, x.ask(0, 6543210, 7));
        same("eight from the other end", -1, x.ask(1, 1234567, 8));
        same("two", 0, x.ask(0, 10, 2));
        same("six", 1, x.ask(2, 543210, 6));
        same("six from the other end", 2, x.ask(1, 234567, 6));

        sentence = "the first its HOME";
        x = Check.office(ROAD + "lorry 1 1;");
        same("another land", -1, x.ask(0, 10, 2));
        same("home at the end", -1, x.ask(0, 12, 2));
        same("without home", -1, x.ask(0, 32, 2));
        same("home", 0, x.ask(0, 21, 2));

        sentence = "each next one over a border";
        x = Check.office(ROAD + "lorry 0 1;");
        same("no border at first", -1, x.ask(0, 20, 2));
        same("no border at last", -1, x.ask(0, 4210, 4));
        same("digits that are no land", -1, x.ask(0, 810, 3));
        same("digits that are no land either", -1, x.ask(0, 90, 2));
        same("over borders", 0, x.ask(0, 3210, 4));

        sentence = "none twice";
        x = Check.office(ROAD + "lorry 1 1;");
        same("back home", -1, x.ask(0, 121, 3));
        same("back on the way", -1, x.ask(0, 2321, 4));
        same("staying", -1, x.ask(0, 11, 2));

        fitting();

        sentence = "A lorry has one TRIP at a time that WAITS or is OUT";
        x = Check.office(PAIR + "type multi 1 1 1 1 1;lorry 0 1;");
        same("the first", 0, x.ask(0, 10, 2));
        same("it waits", -2, x.ask(0, 10, 2));
        x.assign();
        same("it is out", -2, x.ask(0, 10, 2));
        x.home(0);
        same("it is done", 1, x.ask(0, 10, 2));
        x.drop(1);
        same("it was dropped", 2, x.ask(0, 10, 2));
    }

    private static void fitting() {
        sentence = "it is for all LANDS of the ROW but HOME";
        PermitOffice x = Check.office(ROAD + "type multi 1 1 1 1 1 2;type multi 1 1 1 1 0 1;type multi 1 1 1 1 0 2;"
                + "type multi 1 1 1 1 0 1 2 3 4 5 6 7;type multi 1 1 1 1 0;lorry 0 1;");
        x.ask(0, 210, 3);
        int[] due = {1, 0, 0, 1, 0};
        for (int type = 0; type < due.length; type++) {
            same("type " + type, due[type], x.fits(type, 0) ? 1 : 0);
        }

        sentence = "the lorry's ENGINE is that of the type or more";
        for (int engine = 1; engine <= 6; engine++) {
            for (int least = 1; least <= 6; least++) {
                x = Check.office(PAIR + "type multi " + least + " 1 1 1 1;lorry 0 " + engine + ";");
                x.ask(0, 10, 2);
                same(engine + " for " + least, engine >= least ? 1 : 0, x.fits(0, 0) ? 1 : 0);
            }
        }
    }

    // ---- the PLAN

    private static PermitOffice waiting(String types, String lorries) {
        PermitOffice x = Check.office(PAIR + types + lorries);
        for (int lorry = 0; lorry < x.now(3); lorry++) {
            x.ask(lorry, 10, 2);
        }
        return x;
    }

    private static void plan(PermitOffice x, int served, int cost, int... types) {
        same("served", served, x.plan(0));
        same("cost", cost, x.plan(1));
        for (int trip = 0; trip < types.length; trip++) {
            same("trip " + trip, types[trip], x.plan(10 + trip));
        }
    }

    private static void plans() {
        String three = "lorry 0 1;".repeat(3);
        sentence = "each gets a type that FITS it or none";
        plan(waiting("type multi 2 0 9 1 1;type multi 1 9 9 1 0;", three), 0, 0, -1, -1, -1);

        sentence = "of no type more than FREE";
        plan(waiting("type multi 1 1 0 1 1;", three), 0, 0, -1, -1, -1);
        plan(waiting("type multi 1 1 2 1 1;", three), 2, 2, 0, 0, -1);
        plan(waiting("type multi 1 1 3 1 1;", three), 3, 3, 0, 0, 0);
        plan(waiting("type shared 2 1 1 1 1 1;", three), 2, 2, 0, 0, -1);
        plan(waiting("type shared 3 1 1 1 1 1;", three), 3, 3, 0, 0, 0);

        sentence = "those that serve the most TRIPS";
        // Eight at 99 each are better than seven for nothing.
        plan(waiting("type single 1 0 7 1 1;type multi 6 99 8 1 1;", "lorry 0 6;" + "lorry 0 1;".repeat(7)),
                8, 99, 1, 0, 0, 0, 0, 0, 0, 0);
        plan(waiting("type single 1 99 4 1 1;type single 1 99 4 1 1;", "lorry 0 1;".repeat(8)),
                8, 792, 0, 0, 0, 0, 1, 1, 1, 1);

        sentence = "of these those of the least COST of all types given together";
        plan(waiting("type multi 1 50 9 1 1;type multi 1 49 1 1 1;", three), 3, 149, 0, 0, 1);
        // A dearer one for the first makes the cost of all less.
        plan(waiting("type multi 1 0 1 1 1;type multi 6 3 1 1 1;type multi 1 4 1 1 1;", "lorry 0 6;lorry 0 1;"),
                2, 3, 1, 0);

        // The least COST there is, for the last type, against the first type for the first of eight TRIPS.
        plan(waiting("type multi 1 1 9 1 1;".repeat(5) + "type multi 6 0 1 1 1;", "lorry 0 6;" + "lorry 0 1;".repeat(7)),
                8, 7, 5, 0, 0, 0, 0, 0, 0, 0);

        sentence = "of these the one that gives the first TRIP (by numbers) the least type";
        plan(waiting("type multi 1 7 1 1 1;".repeat(6), "lorry 0 1;".repeat(8)), 6, 42, 0, 1, 2, 3, 4, 5, -1, -1);
        PermitOffice x = Check.office(PAIR + "type multi 1 7 1 1 1;type multi 1 7 1 1 1;lorry 0 1;lorry 0 1;");
        x.ask(1, 10, 2);
        x.ask(0, 10, 2);
        plan(x, 2, 14, 0, 1);
        same("its lorry", 1, x.trip(0, 0));

        sentence = "none comes behind all types";
        plan(waiting("type multi 1 7 1 1 1;".repeat(2), "lorry 0 1;".repeat(4)),
                2, 14, 0, 1, -1, -1);
        plan(waiting("type multi 6 0 9 1 0;".repeat(5) + "type multi 1 0 1 1 1;", three), 1, 0, 5, -1, -1);
        sentence = "then the second, and so on";
        plan(waiting("type multi 1 2 2 1 1;type multi 1 2 2 1 1;", "lorry 0 1;".repeat(4)), 4, 8, 0, 0, 1, 1);
        plan(waiting("type multi 6 2 1 1 1;type multi 1 2 9 1 1;", "lorry 0 1;lorry 0 6;lorry 0 6;"), 3, 6, 1, 0, 1);

        sentence = "ASSIGNED: all that the PLAN serves are OUT from TODAY on";
        x = waiting("type multi 1 1 2 1 1;", three);
        x.pass(99);
        same("served", 2, x.assign());
        same("the first", 99, x.trip(0, 4));
        same("the second", 99, x.trip(1, 4));
        same("the third waits", 0, x.trip(2, 2));
    }

    // ---- LATE, STOPPED, HANDED BACK

    /** An office whose one lorry is OUT for so many DAYS by a type of this kind and STAY. */
    private static PermitOffice outFor(String kind, int stay, int days) {
        PermitOffice x = Check.office(PAIR + "type " + kind + " 1 1 1 " + stay + " 1;lorry 0 1;");
        // LATE counts from the DAY on which it went, not from DAY 0.
        x.pass(7);
        x.ask(0, 10, 2);
        x.assign();
        for (int left = days; left > 0; left -= 99) {
            x.pass(Math.min(99, left));
        }
        return x;
    }

    private static void late() {
        sentence = "It is LATE, if TODAY is more than STAY DAYS behind the DAY from which it was OUT";
        for (int stay : new int[] {0, 1, 98, 99}) {
            for (int days = Math.max(0, stay - 1); days <= stay + 2; days++) {
                PermitOffice x = outFor("multi", stay, days);
                same("days out", days, x.home(0));
                same(days + " of " + stay, days > stay ? 1 : 0, x.trip(0, 6));
                same("misuses for " + days + " of " + stay, days > stay ? 1 : 0, x.lorry(0, 3));
            }
        }
        PermitOffice x = outFor("multi", 99, 992);
        same("to the last day", 992, x.home(0));
        same("late", 1, x.trip(0, 6));

        sentence = "A 'single' piece is SPENT then, LOST if it is LATE; others are IN again";
        // IN, OUT, SPENT, LOST when just in time and when LATE.
        ledger("single", 4, 0, 0, 1, 0);
        ledger("single", 5, 0, 0, 0, 1);
        ledger("multi", 4, 1, 0, 0, 0);
        ledger("multi", 5, 1, 0, 0, 0);
        ledger("shared 2", 4, 1, 0, 0, 0);
        ledger("shared 2", 5, 1, 0, 0, 0);
    }

    private static void ledger(String kind, int days, int... due) {
        PermitOffice x = outFor(kind, 4, days);
        x.home(0);
        for (int what = 0; what < due.length; what++) {
            same(kind + ", " + days + " days, ledger " + what, due[what], x.ledger(0, what));
        }
        same("each LATE one is a MISUSE", days > 4 ? 1 : 0, x.lorry(0, 3));
    }

    private static void stopped() {
        sentence = "STOPPED in a LAND: 1 its TRIP is not OUT (or there is none)";
        PermitOffice x = Check.office("lands 3 1;border 0 1;type multi 1 1 1 0 1;lorry 0 1;");
        same("none", 1, x.stop(0, 0));
        x.ask(0, 10, 2);
        same("it waits", 1, x.stop(0, 0));
        same("it waits, off its row", 1, x.stop(0, 2));
        x.drop(0);
        same("it was dropped", 1, x.stop(0, 0));
        x.ask(0, 10, 2);
        x.assign();
        x.home(0);
        same("it is done", 1, x.stop(0, 0));
        same("misuses", 5, x.lorry(0, 3));

        sentence = "STOPPED: 2 the LAND is not in its ROW, 3 it is LATE by now, else 0 (the first that is so)";
        x.ask(0, 10, 2);
        x.assign();
        same("home is in it", 0, x.stop(0, 0));
        same("the last of it", 0, x.stop(0, 1));
        same("not in it", 2, x.stop(0, 2));
        x.pass(1);
        same("late at home", 3, x.stop(0, 0));
        same("late", 3, x.stop(0, 1));
        same("late and not in it", 2, x.stop(0, 2));
        same("1 to 3 are a misuse, 0 is none", 9, x.lorry(0, 3));
    }

    /** An office with so many SPENT pieces. */
    private static PermitOffice spent(int reissue, int pieces) {
        PermitOffice x = Check.office("lands 2 " + reissue + ";border 0 1;type single 1 1 9 9 1;lorry 0 1;");
        for (int k = 0; k < pieces; k++) {
            x.ask(0, 10, 2);
            x.assign();
            x.home(0);
        }
        return x;
    }

    private static void handedBack() {
        sentence = "for each REISSUE that are BACK and not reissued for yet one new piece is IN";
        for (int reissue = 1; reissue <= 9; reissue++) {
            PermitOffice x = spent(reissue, 9);
            int came = 0;
            for (int back = 1; back <= 9; back++) {
                int due = back % reissue == 0 ? 1 : 0;
                same("the " + back + ". of " + reissue, due, x.handBack(0, 1));
                came += due;
                same("in", came, x.ledger(0, 0));
                same("back", back, x.ledger(0, 4));
                same("reissued", came, x.ledger(0, 5));
            }
            x = spent(reissue, 9);
            same("all at once by " + reissue, 9 / reissue, x.handBack(0, 9));
        }
        // One that was reissued can be SPENT and come BACK as well.
        PermitOffice x = spent(9, 9);
        same("nine", 1, x.handBack(0, 9));
        x.ask(0, 10, 2);
        same("the new one", 1, x.assign());
        x.home(0);
        same("the tenth", 0, x.handBack(0, 1));
        same("back", 10, x.ledger(0, 4));
        same("none left", 0, x.type(0, 7));
    }

    private static void anew() {
        sentence = "A new TEXT: DAY 0, no TRIPS, nothing can be undone";
        // Again and again, as what an earlier text left must not show in a later one either.
        PermitOffice x = new PermitOffice();
        for (int k = 0; k < 4; k++) {
            same("the text", 4, Check.tell(x, PAIR + "type single 1 1 9 " + k + " 1;lorry 0 1;"));
            same("day", 0, x.now(0));
            same("trips", 0, x.now(4));
            same("borders", 1, x.now(7));
            same("misuses", 0, x.now(8));
            same("what can be undone", 0, x.now(9));
            same("undo", -1, x.undo());
            for (int what = 0; what <= 5; what++) {
                same("ledger " + what, what == 0 ? 9 : 0, x.ledger(0, what));
            }
            same("no trip of the lorry", -1, x.lorry(0, 2));
            same("none done", 0, x.lorry(0, 4));
            same("the first trip", 0, x.ask(0, 10, 2));
            same("it waits", 0, x.trip(0, 2));
            same("one can be undone", 0, x.undo());
            same("and no more", -1, x.undo());
            leaveMuch(x);
        }
        same("fewer of all", 1, Check.tell(x, "lands 1 1;"));
        int[] due = {0, 1, 0, 0, 0, 0, 0, 0, 0, 0, 0};
        for (int what = 0; what < due.length; what++) {
            same("now(" + what + ")", due[what], x.now(what));
        }
        sentence = "28 LINES at most";
        for (int k = 0; k < 3; k++) {
            same("in each text", 29, Check.tell(x, LANDS + "border 0 1;".repeat(28)));
        }
    }

    /** Pieces SPENT, LOST, BACK, OUT, a MISUSE, a DAY, acts, a TRIP that is OUT. */
    private static void leaveMuch(PermitOffice x) {
        for (int k = 0; k < 4; k++) {
            x.ask(0, 10, 2);
            x.assign();
            x.pass(1 + 99 * (k % 2));
            x.stop(0, 0);
            x.home(0);
        }
        x.handBack(0, 1);
        x.ask(0, 10, 2);
        x.assign();
    }
}
