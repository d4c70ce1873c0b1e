/**
 * All that can be asked of an office, as one text, so that two offices, or one ahead of a call and
 * behind it, can be compared. A small office is seen whole by some hundred calls.
 */
final class Sight {
    private Sight() {
    }

    /** With the tape, the FAULT and how many acts can be undone. */
    static String of(PermitOffice x) {
        return x.now(9) + " " + x.now(10) + " " + x.fault() + " | " + ofBooks(x);
    }

    /** What a new TEXT begins anew, but for how many acts can be undone. */
    static String ofBooks(PermitOffice x) {
        StringBuilder all = new StringBuilder();
        for (int what = 0; what <= 8; what++) {
            all.append(x.now(what)).append(' ');
        }
        for (int type = 0; type < x.now(2); type++) {
            addType(all, x, type);
        }
        for (int lorry = 0; lorry < x.now(3); lorry++) {
            all.append("lorry ");
            for (int what = 0; what <= 4; what++) {
                all.append(x.lorry(lorry, what)).append(' ');
            }
        }
        for (int trip = 0; trip < x.now(4); trip++) {
            addTrip(all, x, trip);
        }
        return all.append(x.plan(0)).append(' ').append(x.plan(1)).toString();
    }

    private static void addType(StringBuilder all, PermitOffice x, int type) {
        all.append("type ");
        for (int what = 0; what <= 7; what++) {
            all.append(x.type(type, what)).append(' ');
        }
        all.append("ledger ");
        for (int what = 0; what <= 5; what++) {
            all.append(x.ledger(type, what)).append(' ');
        }
    }

    private static void addTrip(StringBuilder all, PermitOffice x, int trip) {
        all.append("trip ");
        for (int what = 0; what <= 6; what++) {
            all.append(x.trip(trip, what)).append(' ');
        }
        for (int k = 0; k < x.trip(trip, 1); k++) {
            all.append(x.trip(trip, 10 + k)).append(' ');
        }
        all.append("plan ").append(x.plan(10 + trip)).append(' ');
    }
}
