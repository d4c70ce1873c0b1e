/** Promises 6 to 10: now, type, ledger, lorry, trip. */
public final class TellingTest {
    private static final String TEXT = "lands 4 2;border 0 1;border 1 2;border 2 1;border 2 3;border 3 0;"
            + "type single 1 5 3 4 1 2;type multi 2 9 2 10 1 2 3;type shared 3 4 70 1 99 3 0;"
            + "lorry 0 3;lorry 0 5;lorry 3 6;lorry 2 1;";
    private static final int[] FAR = {-1, -2, 11, 99, Integer.MIN_VALUE, Integer.MAX_VALUE};

    public static void main(String[] args) {
        nowTells();
        typeTells();
        ledgerTells();
        lorryTells();
        tripTells();
        Check.end("TellingTest");
    }

    private static void nowTells() {
        PermitOffice x = Check.office(TEXT);
        x.feed(0, 0, 0, 0, 0);
        x.ask(0, 10, 2);
        x.ask(1, 10, 2);
        x.assign();
        x.ask(2, 3, 2);
        x.ask(3, 12, 2);
        x.stop(3, 0);
        x.stop(2, 0);
        x.stop(2, 0);
        x.drop(3);
        x.pass(7);
        int[] due = {7, 4, 3, 4, 4, 1, 2, 4, 3, 10, 20};
        x.undo();
        x.pass(7);
        for (int what = 0; what < due.length; what++) {
            Check.same("now(" + what + ")", due[what], x.now(what));
        }
        for (int what : FAR) {
            Check.same("now(" + what + ")", -1, x.now(what));
        }
    }

    private static void typeTells() {
        PermitOffice x = Check.office(TEXT);
        int[][] due = {{0, 1, 1, 5, 3, 4, 6, 3}, {1, 1, 2, 9, 2, 10, 14, 2}, {2, 3, 4, 70, 1, 99, 9, 3}};
        for (int type = 0; type < 3; type++) {
            for (int what = 0; what < 8; what++) {
                Check.same("type(" + type + ", " + what + ")", due[type][what], x.type(type, what));
            }
            Check.same("type what 8", -1, x.type(type, 8));
            for (int what : FAR) {
                Check.same("type what " + what, -1, x.type(type, what));
            }
        }
        Check.same("type(3, 0)", -1, x.type(3, 0));
        for (int type : FAR) {
            Check.same("type " + type, -1, x.type(type, 0));
        }
    }

    private static void ledger(PermitOffice x, String when, int type, int... due) {
        for (int what = 0; what < due.length; what++) {
            Check.same(when + " ledger(" + type + ", " + what + ")", due[what], x.ledger(type, what));
        }
    }

    private static void ledgerTells() {
        PermitOffice x = Check.office("lands 2 2;border 0 1;type single 1 1 3 4 1;type multi 1 2 1 4 1;"
                + "type shared 2 1 3 2 4 1;" + "lorry 0 1;".repeat(8));
        for (int lorry = 0; lorry < 7; lorry++) {
            x.ask(lorry, 10, 2);
        }
        ledger(x, "at first", 0, 3, 0, 0, 0, 0, 0, -1);
        ledger(x, "at first", 2, 2, 0, 0, 0, 0, 0, -1);
        Check.same("served", 7, x.assign());
        ledger(x, "out", 0, 0, 3, 0, 0, 0, 0);
        ledger(x, "out", 1, 0, 1, 0, 0, 0, 0);
        // Three lorries need two pieces of two places, of which one place is free.
        ledger(x, "out", 2, 0, 2, 0, 0, 0, 0);
        Check.same("a place is free", 1, x.type(2, 7));
        x.home(0);
        x.home(1);
        x.home(3);
        x.home(4);
        ledger(x, "back", 0, 0, 1, 2, 0, 0, 0);
        ledger(x, "back", 1, 1, 0, 0, 0, 0, 0);
        ledger(x, "back", 2, 1, 1, 0, 0, 0, 0);
        Check.same("two places are free", 2, x.type(2, 7));
        x.home(5);
        ledger(x, "a place is held", 2, 1, 1, 0, 0, 0, 0);
        Check.same("three places are free", 3, x.type(2, 7));
        x.pass(5);
        x.home(2);
        x.home(6);
        ledger(x, "late", 0, 0, 0, 2, 1, 0, 0);
        ledger(x, "late shared", 2, 2, 0, 0, 0, 0, 0);
        x.handBack(0, 1);
        ledger(x, "one back", 0, 0, 0, 1, 1, 1, 0);
        x.handBack(0, 1);
        ledger(x, "two back", 0, 1, 0, 0, 1, 2, 1);
        for (int far : FAR) {
            Check.same("ledger what " + far, -1, x.ledger(0, far));
            Check.same("ledger of " + far, -1, x.ledger(far, 0));
        }
        Check.same("ledger(3, 0)", -1, x.ledger(3, 0));
    }

    private static void lorryTells() {
        PermitOffice x = Check.office(TEXT);
        int[][] due = {{0, 3}, {0, 5}, {3, 6}, {2, 1}};
        for (int lorry = 0; lorry < 4; lorry++) {
            Check.same("home", due[lorry][0], x.lorry(lorry, 0));
            Check.same("engine", due[lorry][1], x.lorry(lorry, 1));
            Check.same("no trip", -1, x.lorry(lorry, 2));
            Check.same("no misuses", 0, x.lorry(lorry, 3));
            Check.same("none done", 0, x.lorry(lorry, 4));
            Check.yes("what 5 throws", Check.lorryThrows(x, lorry, 5));
            for (int what : FAR) {
                Check.yes("what " + what + " throws", Check.lorryThrows(x, lorry, what));
            }
        }
        Check.yes("lorry 4 throws", Check.lorryThrows(x, 4, 0));
        for (int lorry : FAR) {
            Check.yes("lorry " + lorry + " throws", Check.lorryThrows(x, lorry, 0));
        }
        x.ask(1, 10, 2);
        x.ask(0, 10, 2);
        Check.same("it waits", 1, x.lorry(0, 2));
        x.assign();
        Check.same("it is out", 1, x.lorry(0, 2));
        x.pass(5);
        x.home(0);
        Check.same("it is home", -1, x.lorry(0, 2));
        Check.same("late", 1, x.lorry(0, 3));
        Check.same("one done", 1, x.lorry(0, 4));
        x.ask(0, 10, 2);
        Check.same("it waits again", 2, x.lorry(0, 2));
        x.drop(2);
        Check.same("two done", 2, x.lorry(0, 4));
        Check.same("no more misuses", 1, x.lorry(0, 3));
        Check.same("the other", 0, x.lorry(1, 2));
        Check.same("the other's", 0, x.lorry(1, 4));
    }

    private static void trip(PermitOffice x, String when, int trip, int... due) {
        for (int what = 0; what < due.length; what++) {
            Check.same(when + " trip(" + trip + ", " + what + ")", due[what], x.trip(trip, what));
        }
    }

    private static void tripTells() {
        PermitOffice x = Check.office(TEXT);
        x.pass(2);
        x.ask(1, 3210, 4);
        x.ask(0, 210, 3);
        trip(x, "waits", 0, 1, 4, 0, -1, -1, -1, 0, -1, -1, -1, 0, 1, 2, 3, -1, -1, -1);
        trip(x, "waits", 1, 0, 3, 0, -1, -1, -1, 0, -1, -1, -1, 0, 1, 2, -1, -1, -1);
        x.assign();
        x.pass(5);
        trip(x, "out", 0, 1, 4, 1, 1, 2, -1, 0);
        trip(x, "out", 1, 0, 3, 1, 0, 2, -1, 0);
        x.home(1);
        x.home(0);
        trip(x, "done", 0, 1, 4, 2, 1, 2, 7, 0);
        trip(x, "done late", 1, 0, 3, 2, 0, 2, 7, 1);
        x.ask(2, 3, 2);
        x.pass(1);
        x.drop(2);
        trip(x, "dropped", 2, 2, 2, 2, -1, -1, 8, 0, -1, -1, -1, 3, 0, -1);
        Check.same("trip(3, 0)", -1, x.trip(3, 0));
        for (int far : FAR) {
            Check.same("trip " + far, -1, x.trip(far, 0));
        }
        for (int what : new int[] {-1, 7, 8, 9, 16, Integer.MIN_VALUE, Integer.MAX_VALUE}) {
            Check.same("trip what " + what, -1, x.trip(0, what));
        }
        x = Check.office("lands 6 1;border 0 1;border 1 2;border 2 3;border 3 4;border 4 5;lorry 5 1;lorry 0 1;");
        x.ask(0, 12345, 6);
        x.ask(1, 543210, 6);
        for (int k = 0; k < 6; k++) {
            Check.same("a long row", 5 - k, x.trip(0, 10 + k));
            Check.same("a long row back", k, x.trip(1, 10 + k));
        }
        Check.same("behind a long row", -1, x.trip(0, 16));
    }
}
