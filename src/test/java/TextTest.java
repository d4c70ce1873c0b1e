/** Promises 1 to 5: a new object, the tape, texts and their FAULTS. */
public final class TextTest {
    private static final String LANDS = "lands 3 2;";

    public static void main(String[] args) {
        newObject();
        feeding();
        ending();
        rightTexts();
        textsAsAtFirst();
        textsBeginAnew();
        noTokens();
        tokensThatCannotCome();
        endsTooEarly();
        wrongNumbers();
        oneTooMany();
        tooLong();
        faultsLeaveAllAsItIs();
        Check.end("TextTest");
    }

    private static void newObject() {
        PermitOffice x = new PermitOffice();
        for (int what = 0; what <= 10; what++) {
            Check.same("new now(" + what + ")", 0, x.now(what));
        }
        Check.same("new fault()", 0, x.fault());
        Check.same("new type", -1, x.type(0, 0));
        Check.yes("new lorry throws", Check.lorryThrows(x, 0, 0));
        Check.same("new undo", -1, x.undo());
        Check.same("NONE", -1, PermitOffice.NONE);
    }

    private static void feeding() {
        PermitOffice x = new PermitOffice();
        Check.same("first feed", 20, x.feed(0x6c616e64, 0x73203220, 0x313b2020, 0x20202020, 0x20202020));
        Check.same("highest bytes first", 1, x.text());
        Check.same("lands", 2, x.now(1));
        for (int k = 1; k <= 37; k++) {
            Check.same("feed " + k, 20 * k, x.feed(-1, k, 0, Integer.MIN_VALUE, Integer.MAX_VALUE));
        }
        Check.same("one more than 740", -1, x.feed(1, 2, 3, 4, 5));
        Check.same("none came", 740, x.now(10));
        Check.yes("end(721)", x.end(721));
        Check.same("21 too many", -1, x.feed(1, 2, 3, 4, 5));
        Check.yes("end(720)", x.end(720));
        Check.same("just 740", 740, x.feed(1, 2, 3, 4, 5));
    }

    private static void ending() {
        PermitOffice x = new PermitOffice();
        Check.yes("end(0) of none", x.end(0));
        Check.no("end(1) of none", x.end(1));
        x.feed(1, 2, 3, 4, 5);
        Check.no("end(21) of 20", x.end(21));
        Check.no("end(-1)", x.end(-1));
        Check.no("end(least)", x.end(Integer.MIN_VALUE));
        Check.no("end(most)", x.end(Integer.MAX_VALUE));
        Check.same("all are there", 20, x.now(10));
        Check.yes("end(20) of 20", x.end(20));
        Check.yes("end(7)", x.end(7));
        Check.same("7 are left", 7, x.now(10));
        Check.no("end(8) of 7", x.end(8));
    }

    private static void right(String text, int lines) {
        PermitOffice x = new PermitOffice();
        Check.same("text " + text, lines, Check.tell(x, text));
        Check.same("fault of " + text, 0, x.fault());
        Check.same("tape behind " + text, 0, x.now(10));
    }

    private static void wrong(String text, int place, int kind) {
        PermitOffice x = new PermitOffice();
        Check.same("text " + text, -1 - place, Check.tell(x, text));
        Check.same("fault of " + text, kind, x.fault());
        Check.same("tape behind " + text, 0, x.now(10));
    }

    private static void rightTexts() {
        right(LANDS, 1);
        right("lands 1 1;", 1);
        right("lands 8 9;", 1);
        right("lands 08 09;", 1);
        right(" \n lands\n3 2 \n; \n", 1);
        right(LANDS + "border 0 1;border 1 0;border 02 00 ;", 4);
        right(LANDS + "lorry 2 6;lorry 0 1;type single 1 0 0 0 0;type shared 9 6 99 9 99 2 1 0;", 5);
        right(LANDS + "type multi 1 5 2 3 1;border 0 2;lorry 0 3;type shared 2 1 1 1 1 1;", 5);
        right(LANDS + "lorry 0 1;".repeat(8), 9);
        right(LANDS + "type multi 1 1 1 1 0;".repeat(6), 7);
        right(LANDS + "border 0 1;".repeat(28), 29);
        right(LANDS + " ".repeat(690), 1);
    }

    private static void textsAsAtFirst() {
        right("", 0);
        right(" \n\n ", 0);
        right(" ".repeat(700), 0);
        PermitOffice x = Check.office("lands 2 3;border 0 1;type single 1 1 1 1 1;lorry 0 1;");
        x.ask(0, 10, 2);
        x.stop(0, 1);
        x.pass(5);
        Check.same("an empty text", 0, x.text());
        for (int what = 0; what <= 10; what++) {
            Check.same("empty now(" + what + ")", 0, x.now(what));
        }
        Check.same("nothing to undo", -1, x.undo());
        // REISSUE is 1 again only until the next TEXT tells it; types can't be without one.
        x = Check.office("lands 2 3;border 0 1;type single 1 1 1 1 1;lorry 0 1;");
        x.ask(0, 10, 2);
        x.stop(0, 1);
        x.pass(5);
        Check.same("a new text", 2, Check.tell(x, "lands 4 1;lorry 3 1;"));
        Check.same("day 0", 0, x.now(0));
        Check.same("new lands", 4, x.now(1));
        Check.same("no types", 0, x.now(2));
        Check.same("no trips", 0, x.now(4));
        Check.same("no borders", 0, x.now(7));
        Check.same("no misuses", 0, x.now(8));
        Check.same("nothing undone", 0, x.now(9));
        Check.same("no trip of the lorry", -1, x.lorry(0, 2));
        Check.same("no trips done", 0, x.lorry(0, 4));
        x = Check.office("lands 2 1;border 0 1;type single 1 1 1 1 1;lorry 0 1;");
        x.ask(0, 10, 2);
        x.assign();
        x.home(0);
        x.handBack(0, 1);
        Check.tell(x, "lands 2 1;border 0 1;type single 1 1 1 1 1;lorry 0 1;");
        for (int what = 0; what <= 5; what++) {
            Check.same("new ledger " + what, what == 0 ? 1 : 0, x.ledger(0, what));
        }
    }

    /** Leaves something of everything behind: TRIPS, late ones, pieces everywhere, acts. */
    private static void live(PermitOffice x) {
        for (int k = 0; k < 2; k++) {
            x.ask(0, 210, 3);
            x.ask(1, 10, 2);
            x.assign();
            x.pass(3 + k);
            x.home(0);
            x.home(1);
            x.handBack(0, 1);
        }
        x.ask(1, 10, 2);
        x.ask(2, 10, 2);
        x.assign();
        x.ask(0, 10, 2);
        x.stop(0, 3);
        x.stop(1, 3);
    }

    private static void textsBeginAnew() {
        String wide = "lands 4 1;border 0 1;border 1 2;border 2 3;border 3 0;type single 1 0 4 3 1 2;"
                + "type shared 2 1 1 1 3 1;type multi 1 5 1 3 1 2;lorry 0 2;lorry 0 1;lorry 0 1;";
        String small = "lands 3 9;border 1 2;border 0 1;type single 1 1 4 9 1 2;lorry 0 2;lorry 0 2;lorry 0 1;";
        for (String earlier : new String[] {wide, small}) {
            for (String text : new String[] {wide, small}) {
                beginAnew(earlier, text);
            }
        }
        // Behind several texts, as an earlier one's numbers must not come back.
        PermitOffice x = Check.office(wide);
        live(x);
        Check.tell(x, small);
        live(x);
        Check.tell(x, "lands 9");
        x.text();
        Check.yes("as at first", Sight.of(x).equals(Sight.of(new PermitOffice())));
        Check.same("28 borders each time", 29, Check.tell(x, LANDS + "border 0 1;".repeat(28)));
        Check.same("28 borders again", 29, Check.tell(x, LANDS + "border 0 1;".repeat(28)));
    }

    /** A TEXT behind two others is as if it were the first. */
    private static void beginAnew(String earlier, String text) {
        PermitOffice x = Check.office(earlier);
        live(x);
        Check.tell(x, earlier);
        live(x);
        Check.tell(x, text);
        PermitOffice fresh = Check.office(text);
        Check.yes("all anew", Sight.of(x).equals(Sight.of(fresh)));
        for (int lorry = 0; lorry < 3; lorry++) {
            x.ask(lorry, 10, 2);
            fresh.ask(lorry, 10, 2);
        }
        Check.yes("first trips", Sight.of(x).equals(Sight.of(fresh)));
        for (int undone = 0; undone < 3; undone++) {
            x.undo();
            fresh.undo();
        }
        live(x);
        live(fresh);
        Check.yes("all alike", Sight.of(x).equals(Sight.of(fresh)));
    }

    private static void noTokens() {
        wrong("Lands 3 2;", 0, 1);
        wrong("\tlands 3 2;", 0, 1);
        wrong("lands\r3 2;", 5, 1);
        wrong("lands 003 2;", 6, 1);
        wrong("lands3 2;", 0, 1);
        wrong("lands 3a 2;", 6, 1);
        wrong("lands 3 2,", 9, 1);
        wrong(LANDS + "lorry 0 1z;", 18, 1);
        wrong(LANDS + "lorry 0 1a;", 18, 1);
        wrong(LANDS + "lorry 0 z1;", 18, 1);
        wrong("lands 3 -2;", 8, 1);
        wrong("lands 3 2;\u0000", 10, 1);
        wrong("lands 3 2;\u00e9", 10, 1);
        wrong("lands 3 2;\u00ff", 10, 1);
        wrong(LANDS + "border 0 1;{", 21, 1);
        wrong(LANDS + "border 0 1;`", 21, 1);
        wrong(LANDS + "border 0 1;:", 21, 1);
        wrong(LANDS + "border 0 1;/", 21, 1);
    }

    private static void tokensThatCannotCome() {
        wrong("border 0 1;", 0, 1);
        wrong("3;", 0, 1);
        wrong(";", 0, 1);
        wrong("lands;", 5, 1);
        wrong("lands 3;", 7, 1);
        wrong("lands 3 2 1;", 10, 1);
        wrong("lands lands 2;", 6, 1);
        wrong(LANDS + ";", 10, 1);
        wrong(LANDS + "lands 3 2;", 10, 1);
        wrong(LANDS + "land 3 2;", 10, 1);
        wrong(LANDS + "borders 0 1;", 10, 1);
        wrong(LANDS + "corder 0 1;", 10, 1);
        wrong(LANDS + "tupe multi 1 1 1 1 1;", 10, 1);
        wrong(LANDS + "lorrz 0 1;", 10, 1);
        wrong(LANDS + "border;", 16, 1);
        wrong(LANDS + "border 0;", 18, 1);
        wrong(LANDS + "border 0 1 2;", 21, 1);
        wrong(LANDS + "type;", 14, 1);
        wrong(LANDS + "type 1 1 1 1 1;", 15, 1);
        wrong(LANDS + "type lands 1 1 1 1 1;", 15, 1);
        wrong(LANDS + "type single;", 21, 1);
        wrong(LANDS + "type single 1 1 1 1;", 29, 1);
        wrong(LANDS + "type shared 2 1 1 1 1;", 31, 1);
        wrong(LANDS + "type single 1 1 1 1 1 multi;", 32, 1);
        wrong(LANDS + "lorry;", 15, 1);
        wrong(LANDS + "lorry 0;", 17, 1);
        wrong(LANDS + "lorry 0 1 1;", 20, 1);
        wrong(LANDS + "lorry 0 single;", 18, 1);
    }

    private static void endsTooEarly() {
        wrong("lands", 5, 1);
        wrong("lands 3", 7, 1);
        wrong("lands 3 2", 9, 1);
        wrong("lands 3 2 \n", 11, 1);
        wrong(LANDS + "border", 16, 1);
        wrong(LANDS + "type shared 2", 23, 1);
        wrong(LANDS + "type single 1 1 1 1 1", 31, 1);
        wrong(LANDS + "lorry 0 1  ", 21, 1);
    }

    private static void wrongNumbers() {
        wrong("lands 0 2;", 6, 2);
        wrong("lands 9 2;", 6, 2);
        wrong("lands 10 2;", 6, 2);
        wrong("lands 3 0;", 8, 2);
        wrong("lands 3 10;", 8, 2);
        wrong(LANDS + "border 3 0;", 17, 2);
        wrong(LANDS + "border 0 3;", 19, 2);
        wrong(LANDS + "border 1 01;", 19, 2);
        wrong(LANDS + "type shared 1 1 1 1 1 1;", 22, 2);
        wrong(LANDS + "type shared 10 1 1 1 1 1;", 22, 2);
        wrong(LANDS + "type single 0 1 1 1 1;", 22, 2);
        wrong(LANDS + "type single 7 1 1 1 1;", 22, 2);
        wrong(LANDS + "type multi 1 1 10 1 1;", 25, 2);
        wrong(LANDS + "type multi 1 1 1 1 3;", 29, 2);
        wrong(LANDS + "type multi 1 1 1 1 0 3;", 31, 2);
        wrong(LANDS + "type multi 1 1 1 1 0 1 2 0;", 35, 2);
        wrong(LANDS + "type multi 1 1 1 1 2 2", 31, 2);
        wrong(LANDS + "lorry 3 1;", 16, 2);
        wrong(LANDS + "lorry 0 0;", 18, 2);
        wrong(LANDS + "lorry 0 7;", 18, 2);
    }

    private static void oneTooMany() {
        wrong(LANDS + "border 0 1;".repeat(29), 10 + 28 * 11, 3);
        wrong(LANDS + "border 0 1;".repeat(28) + "border", 10 + 28 * 11, 3);
        wrong(LANDS + "type multi 1 1 1 1 0;".repeat(7), 10 + 6 * 21, 3);
        wrong(LANDS + "lorry 0 1;".repeat(9), 10 + 8 * 10, 3);
        wrong(LANDS + "lorry 0 1;".repeat(8) + "lorry1", 90, 1);
        wrong(LANDS + "lorry 0 7;" + "lorry 0 1;".repeat(9), 18, 2);
    }

    private static void tooLong() {
        wrong(LANDS + " ".repeat(691), 700, 1);
        wrong(" ".repeat(701), 700, 1);
        wrong(" ".repeat(740), 700, 1);
        // A FAULT ahead of the 700th byte comes first.
        wrong("lands 9 2;" + " ".repeat(700), 6, 2);
        wrong(LANDS + "border" + " ".repeat(690), 700, 1);
        wrong(LANDS + " ".repeat(689) + "x" + "  ", 699, 1);
        // What begins ahead of it is read whole: a word, a number, and what is neither.
        wrong(LANDS + " ".repeat(686) + "lorry 0 1;", 700, 1);
        wrong(LANDS + " ".repeat(688) + "lory 0 1;", 698, 1);
        wrong(LANDS + "lorry 0" + " ".repeat(682) + "10;", 699, 2);
        wrong(LANDS + "lorry 0" + " ".repeat(682) + "06;", 700, 1);
        wrong(LANDS + "lorry 0" + " ".repeat(682) + "006;", 699, 1);
        wrong(LANDS + "lorry 0" + " ".repeat(683) + "9;", 700, 1);
        wrong(LANDS + "lorry 0 1;".repeat(8) + " ".repeat(606) + "lorry 0 1;", 696, 3);
        wrong(LANDS + "lorry 0 1;".repeat(8) + " ".repeat(610) + "lorry 0 1;", 700, 1);
        right(LANDS + " ".repeat(680) + "lorry 0 1;", 2);
        wrong(LANDS + " ".repeat(681) + "lorry 0 1;", 700, 1);
        wrong(LANDS + " ".repeat(681) + "lorry 0 1", 700, 1);
    }

    private static void faultsLeaveAllAsItIs() {
        PermitOffice x = Check.office("lands 2 3;border 0 1;type single 1 7 2 1 1;lorry 0 4;");
        x.ask(0, 10, 2);
        x.pass(5);
        Check.same("a fault", -1 - 39, Check.tell(x, "lands 8 1;type multi 2 2 2 2 2;lorry 7 7;"));
        Check.same("its kind", 2, x.fault());
        Check.same("lands stay", 2, x.now(1));
        Check.same("types stay", 1, x.now(2));
        Check.same("trips stay", 1, x.now(4));
        Check.same("the day stays", 5, x.now(0));
        Check.same("acts stay", 2, x.now(9));
        Check.same("the type stays", 7, x.type(0, 3));
        Check.same("the lorry stays", 4, x.lorry(0, 1));
        Check.same("the fault stays", 2, x.fault());
        Check.same("undone all the same", 1, x.undo());
        Check.same("a right text", 1, Check.tell(x, LANDS));
        Check.same("no fault then", 0, x.fault());
    }
}
