/** Promises 18 to 24: ask, drop, assign, home, stop, handBack, pass. */
public final class ActsTest {
    private static final String TEXT = "lands 6 2;border 0 1;border 1 2;border 2 3;border 3 4;border 4 5;border 5 0;"
            + "type single 1 1 3 4 1 2;type multi 1 2 1 4 1 2 3;lorry 0 1;lorry 0 1;lorry 4 1;";
    private static final int[] FAR = {-1, 8, 40, Integer.MIN_VALUE, Integer.MAX_VALUE};

    public static void main(String[] args) {
        asking();
        askingTooOften();
        dropping();
        assigning();
        comingHome();
        stopping();
        handingBack();
        passing();
        Check.end("ActsTest");
    }

    private static void asking() {
        PermitOffice x = Check.office(TEXT);
        int[][] none = {{-1, 10, 2}, {3, 10, 2}, {0, 10, 1}, {0, 10, 0}, {0, 10, 7}, {0, 10, -1}, {0, -10, 2},
            {0, 210, 2}, {0, 110, 2}, {0, 10, 3}, {0, 20, 2}, {0, 11, 2}, {0, 0, 2}, {0, 60, 2}, {0, 90, 2},
            {0, 1210, 4}, {0, 50, 3}, {2, 10, 2}, {2, 44, 2}, {2, 344, 3}, {0, 1000000, 6}, {0, 1543210, 6},
            {0, Integer.MAX_VALUE, 6}, {0, Integer.MIN_VALUE, 6}, {Integer.MAX_VALUE, 10, 2},
            {Integer.MIN_VALUE, 10, 2}, {0, 10, Integer.MAX_VALUE}, {0, 10, Integer.MIN_VALUE}};
        for (int[] call : none) {
            Check.same("ask(" + call[0] + ", " + call[1] + ", " + call[2] + ")", -1, x.ask(call[0], call[1], call[2]));
        }
        Check.same("no trips", 0, x.now(4));
        Check.same("no acts", 0, x.now(9));
        Check.same("a row of six", 0, x.ask(0, 543210, 6));
        Check.same("it has one that waits", -2, x.ask(0, 10, 2));
        Check.same("a wrong row comes first", -1, x.ask(0, 20, 2));
        Check.same("another's", 1, x.ask(1, 50, 2));
        Check.same("the lowest first", 2, x.ask(2, 234, 3));
        x.drop(0);
        Check.same("done, so another", 3, x.ask(0, 10, 2));
        x.assign();
        Check.same("out", -2, x.ask(0, 10, 2));
        Check.same("by itself", 1, x.trip(3, 2));
        Check.tell(x, "lands 8 1;border 0 1;border 1 2;border 2 3;border 3 4;border 4 5;border 5 6;"
                + "lorry 0 1;lorry 6 1;");
        Check.same("seven are too many", -1, x.ask(0, 6543210, 7));
        Check.same("seven are too many back", -1, x.ask(1, 123456, 7));
        Check.same("six of them", 0, x.ask(1, 123456, 6));
        // Digits that are not written count as land 0.
        Check.tell(x, "lands 3 1;border 1 2;border 2 0;lorry 1 1;lorry 2 1;");
        Check.same("21 of 3 is 1, 2, 0", 0, x.ask(0, 21, 3));
        Check.same("2 of 2 is 2, 0", 1, x.ask(1, 2, 2));
        x.undo();
        Check.same("2 of 3 is 2, 0, 0", -1, x.ask(1, 2, 3));
        Check.same("21 of 4 is 1, 2, 0, 0", -1, x.ask(0, 21, 4));
    }

    private static void askingTooOften() {
        PermitOffice x = Check.office("lands 2 1;border 0 1;lorry 0 1;lorry 0 1;");
        for (int trip = 0; trip < 39; trip++) {
            Check.same("ask", trip, x.ask(0, 10, 2));
            Check.yes("drop", x.drop(trip));
        }
        Check.same("the last", 39, x.ask(0, 10, 2));
        Check.same("has one first", -2, x.ask(0, 10, 2));
        Check.same("no such row first", -1, x.ask(1, 0, 2));
        Check.same("40 ever were", -3, x.ask(1, 10, 2));
        Check.yes("the last is dropped", x.drop(39));
        Check.same("still 40", -3, x.ask(0, 10, 2));
        Check.same("trips", 40, x.now(4));
        Check.same("done", 40, x.lorry(0, 4));
        Check.same("plan of the last", -1, x.plan(49));
        Check.same("refused asks are no acts", 9, x.undo());
        Check.same("the ask undone", 8, x.undo());
        Check.same("so there is room", 39, x.ask(1, 10, 2));
    }

    private static void dropping() {
        PermitOffice x = Check.office(TEXT);
        x.ask(0, 10, 2);
        x.ask(1, 10, 2);
        for (int far : FAR) {
            Check.no("drop(" + far + ")", x.drop(far));
        }
        Check.no("no trip 2", x.drop(2));
        x.pass(3);
        Check.yes("drop", x.drop(0));
        Check.no("twice", x.drop(0));
        Check.same("done", 2, x.trip(0, 2));
        Check.same("no type", -1, x.trip(0, 3));
        Check.same("no day out", -1, x.trip(0, 4));
        Check.same("today", 3, x.trip(0, 5));
        Check.same("not late", 0, x.trip(0, 6));
        Check.same("one waits", 1, x.now(5));
        Check.same("no pieces spent", 0, x.ledger(0, 2));
        x.assign();
        Check.no("it is out", x.drop(1));
        x.home(1);
        Check.no("it is done", x.drop(1));
    }

    private static void assigning() {
        PermitOffice x = Check.office(TEXT);
        Check.same("none waits", 0, x.assign());
        Check.same("an act all the same", 1, x.now(9));
        x.pass(6);
        x.ask(0, 210, 3);
        x.ask(1, 50, 2);
        Check.same("one is served", 1, x.assign());
        Check.same("out", 1, x.trip(0, 2));
        Check.same("by the type", 0, x.trip(0, 3));
        Check.same("from today", 6, x.trip(0, 4));
        Check.same("the other waits", 0, x.trip(1, 2));
        Check.same("without type", -1, x.trip(1, 3));
        Check.same("a piece is out", 1, x.ledger(0, 1));
        Check.same("two are in", 2, x.ledger(0, 0));
        Check.same("one out", 1, x.now(6));
        Check.same("one waits", 1, x.now(5));
        Check.same("none more", 0, x.assign());
    }

    private static void comingHome() {
        PermitOffice x = Check.office("lands 2 2;border 0 1;type single 1 1 2 4 1;type multi 3 1 1 3 1;"
                + "type shared 2 5 1 1 2 1;lorry 0 1;lorry 0 1;lorry 0 3;lorry 0 5;lorry 0 6;lorry 0 1;");
        for (int far : FAR) {
            Check.yes("home(" + far + ") throws", Check.homeThrows(x, far));
        }
        Check.yes("no lorry 6", Check.homeThrows(x, 6));
        Check.yes("no trip", Check.homeThrows(x, 0));
        x.ask(0, 10, 2);
        Check.yes("it waits", Check.homeThrows(x, 0));
        for (int lorry = 1; lorry < 5; lorry++) {
            x.ask(lorry, 10, 2);
        }
        Check.same("five go", 5, x.assign());
        int[] types = {0, 0, 1, 2, 2};
        for (int lorry = 0; lorry < 5; lorry++) {
            Check.same("type of " + lorry, types[lorry], x.trip(lorry, 3));
        }
        x.pass(3);
        Check.same("shared, late", 3, x.home(3));
        Check.same("a place is free", 1, x.type(2, 7));
        Check.same("a piece is out", 1, x.ledger(2, 1));
        Check.same("a misuse", 1, x.lorry(3, 3));
        x.pass(1);
        Check.same("single, just in time", 4, x.home(0));
        Check.same("spent", 1, x.ledger(0, 2));
        Check.same("no misuse", 0, x.lorry(0, 3));
        Check.same("multi, late", 4, x.home(2));
        Check.same("it is in again", 1, x.ledger(1, 0));
        Check.same("not lost", 0, x.ledger(1, 3));
        Check.same("a misuse too", 1, x.lorry(2, 3));
        x.pass(1);
        Check.same("single, late", 5, x.home(1));
        Check.same("lost", 1, x.ledger(0, 3));
        Check.same("still one spent", 1, x.ledger(0, 2));
        Check.same("none in", 0, x.ledger(0, 0));
        Check.same("late", 1, x.trip(1, 6));
        Check.same("day done", 5, x.trip(1, 5));
        Check.same("day out stays", 0, x.trip(1, 4));
        Check.same("misuses of all", 3, x.now(8));
        Check.yes("home twice", Check.homeThrows(x, 1));
        int acts = x.now(9);
        Check.yes("home of none", Check.homeThrows(x, 5));
        Check.same("no act", acts, x.now(9));
    }

    private static void stopping() {
        PermitOffice x = Check.office(TEXT);
        for (int far : FAR) {
            Check.same("stop(" + far + ", 0)", -1, x.stop(far, 0));
            Check.same("stop(0, " + far + ")", -1, x.stop(0, far));
        }
        Check.same("no lorry 3", -1, x.stop(3, 0));
        Check.same("no land 6", -1, x.stop(0, 6));
        Check.same("no acts", 0, x.now(9));
        Check.same("no trip", 1, x.stop(0, 0));
        x.ask(0, 210, 3);
        Check.same("it waits", 1, x.stop(0, 1));
        x.assign();
        Check.same("lawful", 0, x.stop(0, 2));
        Check.same("lawful at home", 0, x.stop(0, 0));
        Check.same("off its row", 2, x.stop(0, 3));
        x.pass(4);
        Check.same("in time", 0, x.stop(0, 1));
        x.pass(1);
        Check.same("late", 3, x.stop(0, 1));
        Check.same("off its row first", 2, x.stop(0, 5));
        Check.same("booked", 5, x.lorry(0, 3));
        Check.same("of all", 5, x.now(8));
        Check.same("of the other", 0, x.lorry(1, 3));
        Check.same("still out", 1, x.now(6));
        x.home(0);
        Check.same("late home as well", 6, x.lorry(0, 3));
        Check.same("done", 1, x.stop(0, 1));
    }

    private static void handingBack() {
        PermitOffice x = Check.office("lands 2 3;border 0 1;type single 1 1 9 4 1;type multi 1 2 1 4 1;"
                + "lorry 0 1;lorry 0 1;");
        Check.same("none spent", -1, x.handBack(0, 1));
        for (int k = 0; k < 8; k++) {
            x.ask(0, 10, 2);
            x.assign();
            x.home(0);
        }
        for (int far : new int[] {0, -1, 9, Integer.MIN_VALUE, Integer.MAX_VALUE}) {
            Check.same("handBack(0, " + far + ")", -1, x.handBack(0, far));
        }
        for (int far : new int[] {-1, 2, 6, Integer.MIN_VALUE, Integer.MAX_VALUE}) {
            Check.same("handBack(" + far + ", 1)", -1, x.handBack(far, 1));
        }
        Check.same("a multi is never spent", -1, x.handBack(1, 1));
        Check.same("one in", 1, x.ledger(0, 0));
        Check.same("two of three", 0, x.handBack(0, 2));
        Check.same("none more in", 1, x.ledger(0, 0));
        Check.same("the third counts with them", 1, x.handBack(0, 1));
        Check.same("one more in", 2, x.ledger(0, 0));
        Check.same("all the rest", 1, x.handBack(0, 5));
        Check.same("back", 8, x.ledger(0, 4));
        Check.same("none spent", 0, x.ledger(0, 2));
        Check.same("reissued", 2, x.ledger(0, 5));
        Check.same("in", 3, x.ledger(0, 0));
        Check.same("free", 3, x.type(0, 7));
        Check.same("count stays", 9, x.type(0, 4));
        // What was lost can't come back, and days count from the day out.
        x.ask(0, 10, 2);
        x.assign();
        x.pass(5);
        Check.same("five days", 5, x.home(0));
        Check.same("lost", -1, x.handBack(0, 1));
        x.ask(0, 10, 2);
        x.assign();
        Check.same("no day", 0, x.home(0));
        Check.same("the ninth", 1, x.handBack(0, 1));
        // Several at once.
        x = Check.office("lands 2 1;border 0 1;type single 1 1 3 4 1;lorry 0 1;");
        for (int k = 0; k < 3; k++) {
            x.ask(0, 10, 2);
            x.assign();
            x.home(0);
        }
        Check.same("three at once", 3, x.handBack(0, 3));
        Check.same("three in", 3, x.ledger(0, 0));
    }

    private static void passing() {
        PermitOffice x = new PermitOffice();
        for (int days : new int[] {0, -1, 100, Integer.MIN_VALUE, Integer.MAX_VALUE}) {
            Check.same("pass(" + days + ")", -1, x.pass(days));
        }
        Check.same("pass(1)", 1, x.pass(1));
        for (int k = 1; k <= 10; k++) {
            Check.same("pass(99)", 1 + 99 * k, x.pass(99));
        }
        Check.same("above 999", -1, x.pass(9));
        Check.same("the day stays", 991, x.now(0));
        Check.same("the last day", 999, x.pass(8));
        Check.same("no more", -1, x.pass(1));
        Check.same("the last day still", 999, x.now(0));
    }
}
