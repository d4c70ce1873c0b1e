/** Promise 25: undo, of each act, of what is refused, and how many are kept. */
public final class UndoTest {
    private static final String TEXT = "lands 4 2;border 0 1;border 1 2;border 2 3;type single 1 1 3 4 1 2;"
            + "type multi 2 2 1 4 1 2 3;type shared 2 3 0 1 4 1;lorry 0 1;lorry 0 2;lorry 0 3;lorry 0 4;";

    public static void main(String[] args) {
        everyAct();
        refusedOnes();
        tenAtMost();
        textsAndTapes();
        Check.end("UndoTest");
    }

    private static void act(PermitOffice x, int number) {
        switch (number) {
            case 0 -> x.ask(0, 10, 2);
            case 1 -> x.ask(1, 210, 3);
            case 2 -> x.ask(2, 10, 2);
            case 3 -> x.ask(3, 10, 2);
            case 4 -> x.drop(1);
            case 5 -> x.ask(1, 210, 3);
            case 6 -> x.assign();
            case 7 -> x.stop(0, 3);
            case 8 -> x.stop(0, 1);
            case 9 -> x.home(0);
            case 10 -> x.pass(5);
            case 11 -> x.stop(1, 0);
            case 12 -> x.home(2);
            case 13 -> x.home(1);
            case 14 -> x.handBack(0, 1);
            case 15 -> x.assign();
            case 16 -> x.home(3);
            default -> x.pass(99);
        }
    }

    /** An office behind the first acts. */
    private static PermitOffice behind(int acts) {
        PermitOffice x = Check.office(TEXT);
        for (int k = 0; k < acts; k++) {
            act(x, k);
        }
        return x;
    }

    private static void everyAct() {
        int acts = 18;
        for (int done = 1; done <= acts; done++) {
            int kept = Math.min(10, done);
            for (int back = 1; back <= kept; back++) {
                PermitOffice x = behind(done);
                for (int k = 1; k <= back; k++) {
                    Check.same("undo " + k + " of " + done, kept - k, x.undo());
                }
                Check.yes("all as ahead of act " + (done - back),
                        Sight.ofBooks(x).equals(Sight.ofBooks(behind(done - back))));
            }
            PermitOffice x = behind(done);
            for (int k = 1; k <= kept; k++) {
                x.undo();
            }
            Check.same("no more", -1, x.undo());
            // And it can be done again.
            PermitOffice again = behind(done);
            again.undo();
            act(again, done - 1);
            Check.yes("again", Sight.ofBooks(again).equals(Sight.ofBooks(behind(done))));
        }
        PermitOffice x = behind(acts);
        Check.yes("a shared one, a late one were among them", x.lorry(2, 3) == 1 && x.trip(2, 6) == 1);
    }

    private static void refusedOnes() {
        PermitOffice x = Check.office(TEXT);
        Check.same("none is", -1, x.undo());
        x.ask(9, 10, 2);
        x.ask(0, 0, 2);
        x.drop(0);
        x.stop(9, 0);
        x.handBack(0, 1);
        x.pass(0);
        Check.homeThrows(x, 0);
        Check.lorryThrows(x, 9, 9);
        x.plan(0);
        x.lawful(0, 0);
        x.served(0, 1);
        Check.same("none was an act", 0, x.now(9));
        x.assign();
        x.ask(0, 10, 2);
        x.assign();
        x.stop(0, 1);
        Check.same("served none, told 0 as well", 4, x.now(9));
        Check.same("the stop", 3, x.undo());
        Check.same("it is out still", 1, x.now(6));
        Check.same("the assign", 2, x.undo());
        Check.same("it waits", 1, x.now(5));
        Check.same("the ask", 1, x.undo());
        Check.same("none was", 0, x.now(4));
        Check.same("the assign of none", 0, x.undo());
        Check.same("no more", -1, x.undo());
    }

    private static void tenAtMost() {
        PermitOffice x = new PermitOffice();
        for (int day = 1; day <= 25; day++) {
            x.pass(1);
            Check.same("kept", Math.min(day, 10), x.now(9));
        }
        for (int k = 9; k >= 5; k--) {
            Check.same("undo", k, x.undo());
        }
        Check.same("five days back", 20, x.now(0));
        for (int day = 21; day <= 28; day++) {
            x.pass(1);
        }
        Check.same("ten again", 10, x.now(9));
        for (int k = 9; k >= 0; k--) {
            Check.same("undo", k, x.undo());
            Check.same("day", 18 + k, x.now(0));
        }
        Check.same("none", -1, x.undo());
        Check.same("the day stays", 18, x.now(0));
    }

    private static void textsAndTapes() {
        PermitOffice x = Check.office(TEXT);
        x.pass(4);
        x.feed(1, 2, 3, 4, 5);
        Check.same("undo", 0, x.undo());
        Check.same("the tape stays", 20, x.now(10));
        x.pass(4);
        Check.same("a fault", -1, x.text());
        Check.same("can be undone still", 1, x.now(9));
        Check.same("undo", 0, x.undo());
        Check.same("the fault stays", 1, x.fault());
        x.pass(4);
        Check.tell(x, TEXT);
        Check.same("nothing behind a text", -1, x.undo());
    }
}
