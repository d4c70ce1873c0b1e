/** Promises 15 to 17: free, shortest, lawful. */
public final class RoadTest {
    private static final int[] FAR = {-1, 8, 9, Integer.MIN_VALUE, Integer.MAX_VALUE};

    public static void main(String[] args) {
        freeOnes();
        shortestRows();
        longestRow();
        lawfulOnes();
        Check.end("RoadTest");
    }

    private static void freeOnes() {
        PermitOffice x = Check.office("lands 3 1;border 0 1;type single 1 1 2 9 1;type multi 3 1 4 9 1 2;"
                + "type shared 5 6 1 2 9 2 1;lorry 0 1;lorry 0 6;");
        int[] due = {2, 2, 6, 6, 6, 16};
        for (int engine = 1; engine <= 6; engine++) {
            Check.same("free(1, " + engine + ")", due[engine - 1], x.free(1, engine));
        }
        Check.same("free(2, 6)", 14, x.free(2, 6));
        // What an earlier text told of more types does not count.
        PermitOffice less = Check.office("lands 3 1;type multi 1 1 9 9 2;type multi 1 1 9 9 0 1 2;lorry 0 1;");
        Check.tell(less, "lands 3 1;");
        Check.tell(less, "lands 3 1;border 0 1;border 0 2;type multi 1 1 1 9 2;lorry 0 1;");
        Check.same("of one type alone", 1, less.free(2, 6));
        Check.same("by one type alone", -2, less.shortest(0, 1));
        Check.same("free(2, 1)", 0, x.free(2, 1));
        Check.same("free(0, 6)", 0, x.free(0, 6));
        for (int far : FAR) {
            Check.same("free of land " + far, -1, x.free(far, 1));
            Check.same("free of engine " + far, -1, x.free(1, far));
        }
        Check.same("free(3, 1)", -1, x.free(3, 1));
        Check.same("free(1, 0)", -1, x.free(1, 0));
        Check.same("free(1, 7)", -1, x.free(1, 7));
        x.ask(0, 10, 2);
        Check.same("waiting takes none", 2, x.free(1, 1));
        x.assign();
        Check.same("one is out", 1, x.free(1, 1));
        Check.same("of all one less", 15, x.free(1, 6));
    }

    private static void shortestRows() {
        // 0-1-2-3 in a row, and 0-4-3 as a shorter way.
        String map = "lands 6 1;border 0 1;border 1 2;border 2 3;border 0 4;border 4 3;";
        PermitOffice x = Check.office(map + "type single 1 1 0 1 1 2 3;type multi 4 1 1 1 4 3;lorry 0 3;lorry 0 4;"
                + "lorry 3 1;lorry 5 6;");
        Check.same("next land", 2, x.shortest(0, 1));
        Check.same("by one type alone", 4, x.shortest(0, 3));
        Check.same("by a better engine", 3, x.shortest(1, 3));
        Check.same("no type for it", -2, x.shortest(0, 4));
        Check.same("by the other", 2, x.shortest(1, 4));
        Check.same("no road at all", -2, x.shortest(0, 5));
        Check.same("types do not join", -2, x.shortest(2, 0));
        Check.same("home need not be in it", 2, x.shortest(2, 2));
        Check.same("from an island", -2, x.shortest(3, 0));
        // A type that is of no use behind one that is, and the other way round.
        PermitOffice star = Check.office(map + "type multi 1 1 1 1 5;type multi 1 1 1 1 1 2 3;type multi 1 1 1 1 3 4;"
                + "type multi 1 1 1 1 0;lorry 0 1;");
        int[] due = {-1, 2, 3, 3, 2, -2};
        for (int land = 0; land < 6; land++) {
            Check.same("shortest of several to " + land, due[land], star.shortest(0, land));
        }
        for (int lorry = 0; lorry < 4; lorry++) {
            Check.same("home itself", -1, x.shortest(lorry, x.lorry(lorry, 0)));
        }
        for (int far : FAR) {
            Check.same("no such lorry", -1, x.shortest(far, 1));
            Check.same("no such land", -1, x.shortest(0, far));
        }
        Check.same("no lorry 4", -1, x.shortest(4, 1));
        Check.same("no land 6", -1, x.shortest(0, 6));
    }

    private static void longestRow() {
        StringBuilder text = new StringBuilder("lands 8 1;");
        for (int land = 1; land < 8; land++) {
            text.append("border ").append(land).append(' ').append(land - 1).append(';');
        }
        PermitOffice x = Check.office(text + "type multi 1 1 0 1 1 2 3 4 5 6 7;lorry 0 1;");
        for (int land = 1; land < 8; land++) {
            Check.same("to land " + land, land + 1, x.shortest(0, land));
        }
    }

    private static void lawfulOnes() {
        PermitOffice x = Check.office("lands 4 1;border 0 1;border 1 2;border 2 3;type multi 1 1 2 3 1 2;"
                + "lorry 0 1;lorry 0 1;");
        Check.same("no trip", 1, x.lawful(0, 0));
        x.ask(0, 210, 3);
        Check.same("it waits", 1, x.lawful(0, 1));
        x.assign();
        for (int land = 0; land < 4; land++) {
            Check.same("out in " + land, land < 3 ? 0 : 2, x.lawful(0, land));
        }
        x.pass(3);
        Check.same("just in time", 0, x.lawful(0, 2));
        x.pass(1);
        Check.same("late", 3, x.lawful(0, 2));
        Check.same("late at home", 3, x.lawful(0, 0));
        Check.same("off its row comes first", 2, x.lawful(0, 3));
        Check.same("nothing is booked", 0, x.now(8));
        Check.same("no acts", 4, x.now(9));
        x.home(0);
        Check.same("done", 1, x.lawful(0, 1));
        for (int far : FAR) {
            Check.same("no such lorry", -1, x.lawful(far, 1));
            Check.same("no such land", -1, x.lawful(0, far));
        }
        Check.same("no lorry 2", -1, x.lawful(2, 1));
        Check.same("no land 4", -1, x.lawful(0, 4));
    }
}
