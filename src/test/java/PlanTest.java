/** Promises 11 to 14: fits, plan, served, needs. */
public final class PlanTest {
    private static final String ROAD = "lands 4 1;border 0 1;border 1 2;border 2 3;";

    public static void main(String[] args) {
        fitting();
        mostServed();
        leastCost();
        firstTripLeastType();
        longChains();
        crossedChains();
        planOfNone();
        servedWithMoreOrLess();
        furtherOnes();
        Check.end("PlanTest");
    }

    private static void fitting() {
        PermitOffice x = Check.office(ROAD + "type single 3 1 1 1 1 2;type multi 4 1 0 1 1 2;type shared 2 1 1 1 1 0 1;"
                + "type multi 1 1 1 1 1 2 3;type single 3 1 1 1 0 2;lorry 0 3;lorry 2 6;");
        x.ask(0, 210, 3);
        x.ask(1, 12, 2);
        Check.yes("lands and engine", x.fits(0, 0));
        Check.no("too weak an engine", x.fits(1, 0));
        Check.no("a land is wanting", x.fits(2, 0));
        Check.yes("more lands, less engine", x.fits(3, 0));
        Check.no("not for the land between", x.fits(4, 0));
        Check.yes("without pieces too", x.fits(1, 1));
        Check.yes("home is not asked for", x.fits(2, 1));
        x.assign();
        Check.yes("out all the same", x.fits(0, 0));
        x.home(0);
        Check.yes("done all the same", x.fits(0, 0));
        int[] far = {-1, 5, 40, Integer.MIN_VALUE, Integer.MAX_VALUE};
        for (int one : far) {
            Check.no("no such type", x.fits(one, 0));
            Check.no("no such trip", x.fits(0, one));
        }
        Check.no("trip 2", x.fits(0, 2));
    }

    private static void plan(PermitOffice x, String when, int served, int cost, int... types) {
        Check.same(when + " served", served, x.plan(0));
        Check.same(when + " cost", cost, x.plan(1));
        for (int trip = 0; trip < types.length; trip++) {
            Check.same(when + " trip " + trip, types[trip], x.plan(10 + trip));
        }
    }

    private static void mostServed() {
        // The cheap type would do for the first TRIP, but the second can have no other.
        PermitOffice x = Check.office(ROAD + "type single 1 1 1 1 1;type single 2 90 1 1 1;lorry 0 2;lorry 0 1;");
        x.ask(0, 10, 2);
        x.ask(1, 10, 2);
        plan(x, "most", 2, 91, 1, 0, -1);
        // A piece that is OUT is no longer FREE.
        x.drop(1);
        plan(x, "one dropped", 1, 1, 0, -1);
        x.assign();
        x.ask(1, 10, 2);
        plan(x, "none left", 0, 0, -1, -1, -1);
    }

    private static void leastCost() {
        PermitOffice x = Check.office(ROAD + "type multi 1 9 3 1 1;type multi 1 2 1 1 1;type shared 2 1 3 1 1 1;"
                + "lorry 0 1;".repeat(5));
        for (int lorry = 0; lorry < 5; lorry++) {
            x.ask(lorry, 10, 2);
        }
        plan(x, "least cost", 5, 26, 0, 0, 1, 2, 2);
        x.undo();
        x.undo();
        plan(x, "of three", 3, 8, 1, 2, 2);
        // One of two like TRIPS goes without: the cheaper type is given.
        x = Check.office(ROAD + "type multi 1 9 1 1 1;type multi 1 8 1 1 1 2;lorry 0 1;lorry 0 1;lorry 0 1;");
        x.ask(0, 10, 2);
        plan(x, "the cheaper", 1, 8, 1);
        x.ask(1, 210, 3);
        plan(x, "both", 2, 17, 0, 1);
        x.ask(2, 10, 2);
        plan(x, "the last without", 2, 17, 0, 1, -1);
    }

    private static void firstTripLeastType() {
        String like = "type multi 1 5 1 1 1;type shared 2 1 5 1 1 1;type single 1 5 1 1 1;";
        PermitOffice x = Check.office(ROAD + like + "lorry 0 1;".repeat(6));
        for (int lorry = 5; lorry >= 0; lorry--) {
            x.ask(lorry, 10, 2);
        }
        plan(x, "like cost", 4, 20, 0, 1, 1, 2, -1, -1);
        // The first is served even where the second could be instead, and with the least type.
        x = Check.office(ROAD + "type multi 1 0 0 1 1;type multi 1 0 1 1 1 2;lorry 0 1;lorry 0 1;");
        x.ask(1, 210, 3);
        x.ask(0, 10, 2);
        plan(x, "the first by numbers", 1, 0, 1, -1);
        // A dearer type is not given, though less.
        x = Check.office(ROAD + "type multi 1 1 9 1 1;type multi 1 0 1 1 1;lorry 0 1;lorry 0 1;");
        x.ask(0, 10, 2);
        x.ask(1, 10, 2);
        plan(x, "cost counts more", 2, 1, 0, 1);
        // The first TRIP makes room for cost alone, not for a later one's lesser type.
        x = Check.office(ROAD + "type multi 1 3 1 1 1;type multi 1 3 1 1 1;type multi 1 3 1 1 1;lorry 0 1;lorry 0 1;");
        x.ask(0, 10, 2);
        x.ask(1, 10, 2);
        plan(x, "in order", 2, 6, 0, 1);
    }

    private static void longChains() {
        // Each newcomer pushes all others on, by one type each.
        StringBuilder text = new StringBuilder("lands 8 1;");
        for (int land = 1; land < 8; land++) {
            text.append("border 0 ").append(land).append(';');
        }
        for (int type = 0; type < 6; type++) {
            text.append("type single 1 ").append(type).append(" 1 9 ").append(type + 1).append(' ')
                    .append(type + 2).append(';');
        }
        text.append("lorry 0 1;".repeat(8));
        PermitOffice x = Check.office(text.toString());
        for (int land = 2; land <= 6; land++) {
            x.ask(land, 10 * land, 2);
        }
        plan(x, "on the left", 5, 10, 0, 1, 2, 3, 4);
        x.ask(0, 10, 2);
        plan(x, "pushed to the right", 6, 15, 1, 2, 3, 4, 5, 0);
        x.ask(1, 70, 2);
        plan(x, "one more than types", 6, 15, 0, 1, 2, 3, 4, -1, 5);
        Check.same("assigned", 6, x.assign());
        for (int trip = 0; trip < 7; trip++) {
            Check.same("assigned type", trip == 5 ? -1 : trip < 5 ? trip : 5, x.trip(trip, 3));
        }
    }

    /** The least types need a chain that is found cheaper only behind all others. */
    private static void crossedChains() {
        PermitOffice x = Check.office("lands 4 1;border 0 1;border 0 2;border 0 3;type multi 1 1 2 1 1 2 3;"
                + "type multi 1 1 1 1 3;type multi 2 0 1 1 3;type multi 1 1 1 1 3;type multi 1 1 2 1 1 3;"
                + "type multi 1 0 1 1 1 3;lorry 0 2;lorry 0 2;lorry 0 2;lorry 0 2;lorry 0 1;lorry 0 1;");
        int[] to = {3, 3, 3, 2, 1, 3};
        for (int lorry = 0; lorry < to.length; lorry++) {
            x.ask(lorry, 10 * to[lorry], 2);
        }
        plan(x, "crossed", 6, 4, 0, 1, 2, 0, 4, 5);
    }

    private static void planOfNone() {
        PermitOffice x = Check.office(ROAD + "type multi 1 1 1 1 1;lorry 0 1;");
        plan(x, "none asked", 0, 0, -1);
        x.ask(0, 3210, 4);
        plan(x, "none fits", 0, 0, -1);
        for (int what : new int[] {-1, 2, 3, 9, 50, 99, Integer.MIN_VALUE, Integer.MAX_VALUE}) {
            Check.same("plan(" + what + ")", -1, x.plan(what));
        }
        x.undo();
        x.ask(0, 10, 2);
        Check.same("as it would be", 1, x.plan(0));
        Check.same("nothing is changed", 1, x.now(5));
        x.assign();
        plan(x, "it does not wait", 0, 0, -1);
        Check.same("no act", 2, x.now(9));
    }

    private static void servedWithMoreOrLess() {
        PermitOffice x = Check.office(ROAD + "type shared 3 1 1 1 1 1;type multi 1 2 1 1 1;" + "lorry 0 1;".repeat(8));
        for (int lorry = 0; lorry < 8; lorry++) {
            x.ask(lorry, 10, 2);
        }
        int[] more = {-99, -3, -2, -1, 0, 1, 3, 4, 5, 99};
        int[] due = {1, 1, 2, 3, 4, 5, 7, 8, 8, 8};
        for (int k = 0; k < more.length; k++) {
            Check.same("served(0, " + more[k] + ")", due[k], x.served(0, more[k]));
        }
        Check.same("served(1, -1)", 3, x.served(1, -1));
        Check.same("served(1, -2)", 3, x.served(1, -2));
        for (int far : new int[] {-100, 100, Integer.MIN_VALUE, Integer.MAX_VALUE}) {
            Check.same("served by " + far, -1, x.served(0, far));
            Check.same("served of " + far, -1, x.served(far, 0));
        }
        Check.same("no such type", -1, x.served(2, 0));
        Check.same("no such type", -1, x.served(-1, 0));
        Check.same("free as before", 3, x.type(0, 7));
    }

    private static void furtherOnes() {
        PermitOffice x = Check.office(ROAD + "type single 1 9 1 1 1;type single 1 1 1 1 2 3 1;type multi 3 1 0 1 1 2 3;"
                + "type multi 1 1 9 9 0;lorry 0 2;lorry 0 2;lorry 0 2;lorry 0 3;");
        Check.same("none waits", 0, x.needs(0));
        x.ask(0, 10, 2);
        x.ask(1, 10, 2);
        Check.same("it does", 0, x.needs(0));
        x.ask(2, 210, 3);
        Check.same("one more", 1, x.needs(0));
        Check.same("one more of the other", 1, x.needs(1));
        Check.same("too weak", -2, x.needs(2));
        Check.same("of no use", -2, x.needs(3));
        x.ask(3, 3210, 4);
        Check.same("short of two", -2, x.needs(0));
        Check.same("two of the other", 2, x.needs(1));
        Check.same("not for all", -2, x.needs(2));
        for (int far : new int[] {-1, 4, 6, 7, Integer.MIN_VALUE, Integer.MAX_VALUE}) {
            Check.same("needs(" + far + ")", -1, x.needs(far));
        }
        x = Check.office(ROAD + "type shared 2 1 0 0 0 1;" + "lorry 0 1;".repeat(8));
        for (int lorry = 0; lorry < 8; lorry++) {
            x.ask(lorry, 10, 2);
            Check.same("by FREE ones, not by pieces", lorry + 1, x.needs(0));
        }
    }
}
