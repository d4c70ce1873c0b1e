import java.util.NoSuchElementException;

/**
 * A trip permit office: lorries that cross several lands by permits.
 * The words in capitals are those of the document (shared/DOC.md).
 */
public final class PermitOffice {
    public static final int NONE = -1;

    private static final int NEVER = -2;
    private static final int BUSY = -2;
    private static final int FULL = -3;

    private static final int MAX_TAPE = 740;
    private static final int MAX_TEXT = 700;
    private static final int BYTES_A_FEED = 20;
    private static final int MAX_LANDS = 8;
    private static final int MAX_BORDER_LINES = 28;
    private static final int MAX_TYPES = 6;
    /** PLACES, ENGINE, COST, COUNT, STAY. */
    private static final int TERMS_OF_TYPE = 5;
    private static final int MAX_ENGINE = 6;
    private static final int MAX_LORRIES = 8;
    private static final int MAX_TRIPS = 40;
    private static final int LEAST_ROW = 2;
    private static final int MAX_ROW = 6;
    private static final int MAX_MORE = 99;
    private static final int MAX_DAYS = 99;
    private static final int LAST_DAY = 999;
    private static final int MAX_ACTS = 10;

    /** From this what on, trip() and plan() tell of the LANDS and TRIPS one by one. */
    private static final int ONE_BY_ONE = 10;

    private static final int NO_TOKEN = 1;
    private static final int WRONG_NUMBER = 2;
    private static final int ONE_TOO_MANY = 3;

    private static final int SINGLE = 0;
    private static final int MULTI = 1;
    private static final int SHARED = 2;

    private static final int WAITS = 0;
    private static final int OUT = 1;
    private static final int DONE = 2;

    private static final int LAWFUL = 0;
    private static final int NOT_OUT = 1;
    private static final int OFF_ITS_ROW = 2;
    private static final int TOO_LATE = 3;

    private static final int ASKED = 0;
    private static final int ASSIGNED = 1;
    private static final int FINISHED = 2;
    private static final int STOPPED = 3;
    private static final int HANDED_BACK = 4;
    private static final int PASSED = 5;

    private final Tape tape;
    private final Reader reader;
    private final Planner planner;
    private Books books;
    /** A text is read into these, so that a FAULT leaves the books as they are. */
    private Books draft;
    private int latestFault;

    public PermitOffice() {
        tape = new Tape();
        reader = new Reader(new Tokens(tape));
        planner = new Planner();
        books = new Books();
        draft = new Books();
    }

    public int feed(int a, int b, int c, int d, int e) {
        if (tape.length + BYTES_A_FEED > MAX_TAPE) {
            return NONE;
        }
        tape.putNumber(a);
        tape.putNumber(b);
        tape.putNumber(c);
        tape.putNumber(d);
        tape.putNumber(e);
        return tape.length;
    }

    public boolean end(int n) {
        if (n < 0 || n > tape.length) {
            return false;
        }
        tape.length = n;
        return true;
    }

    public int text() {
        draft.clear();
        boolean fine = reader.readInto(draft);
        tape.length = 0;
        latestFault = reader.faultKind;
        if (!fine) {
            return -1 - reader.faultPlace;
        }
        Books told = draft;
        draft = books;
        books = told;
        return reader.lines;
    }

    public int fault() {
        return latestFault;
    }

    public int now(int what) {
        switch (what) {
            case 0: return books.today;
            case 1: return books.lands.count;
            case 2: return books.permits.count;
            case 3: return books.lorries.count;
            case 4: return books.trips.count;
            case 5: return books.trips.countIn(WAITS);
            case 6: return books.trips.countIn(OUT);
            case 7: return books.lands.borders;
            case 8: return books.lorries.allMisuses();
            case 9: return books.acts.kept;
            case 10: return tape.length;
            default: return NONE;
        }
    }

    public int type(int type, int what) {
        Permits permits = books.permits;
        if (!permits.has(type)) {
            return NONE;
        }
        switch (what) {
            case 0: return permits.kinds[type];
            case 1: return permits.places[type];
            case 2: return permits.engines[type];
            case 3: return permits.costs[type];
            case 4: return permits.pieces[type];
            case 5: return permits.stays[type];
            case 6: return permits.landBits[type];
            case 7: return permits.countFree(type);
            default: return NONE;
        }
    }

    public int ledger(int type, int what) {
        Permits permits = books.permits;
        if (!permits.has(type)) {
            return NONE;
        }
        switch (what) {
            case 0: return permits.countIn(type);
            case 1: return permits.countOut(type);
            case 2: return permits.spent[type];
            case 3: return permits.lost[type];
            case 4: return permits.back[type];
            case 5: return permits.countReissued(type);
            default: return NONE;
        }
    }

    public int lorry(int lorry, int what) throws NoSuchElementException {
        Lorries lorries = books.lorries;
        if (!lorries.has(lorry)) {
            throw new NoSuchElementException("no such lorry");
        }
        switch (what) {
            case 0: return lorries.homes[lorry];
            case 1: return lorries.engines[lorry];
            case 2: return lorries.tripNow[lorry];
            case 3: return lorries.misuses[lorry];
            case 4: return lorries.tripsDone[lorry];
            default: throw new NoSuchElementException("no such what");
        }
    }

    public int trip(int trip, int what) {
        Trips trips = books.trips;
        if (!trips.has(trip)) {
            return NONE;
        }
        switch (what) {
            case 0: return trips.ofLorry[trip];
            case 1: return trips.sizes[trip];
            case 2: return trips.states[trip];
            case 3: return trips.byType[trip];
            case 4: return trips.outDays[trip];
            case 5: return trips.doneDays[trip];
            case 6: return trips.late[trip];
            default: return what < ONE_BY_ONE ? NONE : trips.landOf(trip, what - ONE_BY_ONE);
        }
    }

    public boolean fits(int type, int trip) {
        return books.suits(type, trip);
    }

    public int plan(int what) {
        if (what != 0 && what != 1 && what < ONE_BY_ONE) {
            return NONE;
        }
        planner.setUp(books);
        planner.solve();
        switch (what) {
            case 0: return planner.servedCount;
            case 1: return planner.costTogether(books.permits);
            default: return planner.typeFor(what - ONE_BY_ONE);
        }
    }

    public int served(int type, int more) {
        if (!books.permits.has(type) || more < -MAX_MORE || more > MAX_MORE) {
            return NONE;
        }
        planner.setUp(books);
        planner.addFree(type, more);
        planner.solve();
        return planner.servedCount;
    }

    public int needs(int type) {
        if (!books.permits.has(type)) {
            return NONE;
        }
        planner.setUp(books);
        // No more TRIPS than lorries WAIT, so more pieces than these never help.
        for (int more = 0; more <= MAX_LORRIES; more++) {
            planner.solve();
            if (planner.servedCount == planner.waiting) {
                return more;
            }
            planner.addFree(type, 1);
        }
        return NEVER;
    }

    public int free(int land, int engine) {
        if (!books.lands.has(land) || engine < 1 || engine > MAX_ENGINE) {
            return NONE;
        }
        Permits permits = books.permits;
        int sum = 0;
        for (int type = 0; type < permits.count; type++) {
            if (permits.isFor(type, 1 << land) && permits.suitsEngine(type, engine)) {
                sum += permits.countFree(type);
            }
        }
        return sum;
    }

    public int shortest(int lorry, int land) {
        Lorries lorries = books.lorries;
        if (!lorries.has(lorry) || !books.lands.has(land) || lorries.homes[lorry] == land) {
            return NONE;
        }
        Permits permits = books.permits;
        int least = NEVER;
        for (int type = 0; type < permits.count; type++) {
            if (permits.suitsEngine(type, lorries.engines[lorry])) {
                int many = books.lands.shortestRow(lorries.homes[lorry], land, permits.landBits[type]);
                if (many != NEVER && (least == NEVER || many < least)) {
                    least = many;
                }
            }
        }
        return least;
    }

    public int lawful(int lorry, int land) {
        if (!books.lorries.has(lorry) || !books.lands.has(land)) {
            return NONE;
        }
        return books.judge(lorry, land);
    }

    public int ask(int lorry, int row, int many) {
        if (!books.lorries.has(lorry) || many < LEAST_ROW || many > MAX_ROW || row < 0) {
            return NONE;
        }
        int landBits = books.lands.bitsOfRow(books.lorries.homes[lorry], row, many);
        if (landBits == 0) {
            return NONE;
        }
        if (books.lorries.tripNow[lorry] != NONE) {
            return BUSY;
        }
        if (books.trips.count >= MAX_TRIPS) {
            return FULL;
        }
        int trip = books.trips.add(lorry, row, many, landBits);
        books.lorries.tripNow[lorry] = trip;
        books.acts.keep(ASKED, lorry, 0);
        return trip;
    }

    public boolean drop(int trip) {
        if (!books.trips.has(trip) || books.trips.states[trip] != WAITS) {
            return false;
        }
        books.finish(trip);
        books.acts.keep(FINISHED, trip, 0);
        return true;
    }

    public int assign() {
        planner.setUp(books);
        planner.solve();
        int lorryBits = 0;
        for (int k = 0; k < planner.waiting; k++) {
            lorryBits |= books.sendOut(planner.trips[k], planner.given[k]);
        }
        books.acts.keep(ASSIGNED, NONE, lorryBits);
        return planner.servedCount;
    }

    public int home(int lorry) throws NoSuchElementException {
        if (!books.lorries.has(lorry)) {
            throw new NoSuchElementException("no such lorry");
        }
        if (!books.isOut(lorry)) {
            throw new NoSuchElementException("no trip that is out");
        }
        int trip = books.lorries.tripNow[lorry];
        books.finish(trip);
        books.acts.keep(FINISHED, trip, 0);
        return books.today - books.trips.outDays[trip];
    }

    public int stop(int lorry, int land) {
        if (!books.lorries.has(lorry) || !books.lands.has(land)) {
            return NONE;
        }
        int told = books.judge(lorry, land);
        int misuse = told == LAWFUL ? 0 : 1;
        books.lorries.misuses[lorry] += misuse;
        books.acts.keep(STOPPED, lorry, misuse);
        return told;
    }

    public int handBack(int type, int n) {
        Permits permits = books.permits;
        if (!permits.has(type) || n < 1 || n > permits.spent[type]) {
            return NONE;
        }
        int before = permits.countReissued(type);
        permits.moveBack(type, n);
        books.acts.keep(HANDED_BACK, type, n);
        return permits.countReissued(type) - before;
    }

    public int pass(int days) {
        if (days < 1 || days > MAX_DAYS || books.today + days > LAST_DAY) {
            return NONE;
        }
        books.today += days;
        books.acts.keep(PASSED, NONE, days);
        return books.today;
    }

    public int undo() {
        Acts acts = books.acts;
        if (acts.kept <= 0) {
            return NONE;
        }
        int slot = acts.takeLatest();
        books.takeBack(acts.kinds[slot], acts.whom[slot], acts.amounts[slot]);
        return acts.kept;
    }

    /** The bytes that were fed and are no text yet. */
    private static final class Tape {
        final byte[] bytes = new byte[MAX_TAPE];
        int length;

        void putNumber(int number) {
            for (int shift = 24; shift >= 0; shift -= 8) {
                if (length < bytes.length) {
                    bytes[length] = (byte) (number >> shift);
                    length++;
                }
            }
        }

        int at(int place) {
            return place >= 0 && place < length && place < bytes.length ? bytes[place] & 255 : NONE;
        }
    }

    /** Walks along the tape, a TOKEN at a time. */
    private static final class Tokens {
        static final int END = 0;
        static final int WORD = 1;
        static final int NUMBER = 2;
        static final int SEMICOLON = 3;
        static final int WRONG = 4;

        final Tape tape;
        int kind;
        int start;
        int behind;
        int value;

        Tokens(Tape tape) {
            this.tape = tape;
        }

        void restart() {
            behind = 0;
            advance();
        }

        boolean isTooLong() {
            return tape.length > MAX_TEXT;
        }

        void advance() {
            start = skipBlanks(behind);
            // Only where it begins counts: a TOKEN from ahead of the limit is read beyond it.
            int limit = Math.min(tape.length, MAX_TEXT);
            if (start >= limit) {
                start = limit;
                behind = limit;
                kind = END;
                return;
            }
            int sign = tape.at(start);
            if (isLetter(sign) || isDigit(sign)) {
                readRun();
            } else {
                behind = start + 1;
                kind = sign == ';' ? SEMICOLON : WRONG;
            }
        }

        boolean isWord(String word) {
            if (kind != WORD || behind - start != word.length()) {
                return false;
            }
            for (int k = 0; k < word.length(); k++) {
                if (tape.at(start + k) != word.charAt(k)) {
                    return false;
                }
            }
            return true;
        }

        private int skipBlanks(int from) {
            int place = from;
            while (place < tape.length && (tape.at(place) == ' ' || tape.at(place) == '\n')) {
                place++;
            }
            return place;
        }

        private void readRun() {
            int letters = 0;
            int digits = 0;
            int sum = 0;
            int place = start;
            for (; place < tape.length; place++) {
                int sign = tape.at(place);
                if (isLetter(sign)) {
                    letters++;
                } else if (isDigit(sign)) {
                    digits++;
                    sum = sum * 10 + sign - '0';
                } else {
                    break;
                }
            }
            behind = place;
            value = sum;
            if (digits == 0) {
                kind = WORD;
            } else {
                kind = letters == 0 && digits <= 2 ? NUMBER : WRONG;
            }
        }

        private static boolean isLetter(int sign) {
            return sign >= 'a' && sign <= 'z';
        }

        private static boolean isDigit(int sign) {
            return sign >= '0' && sign <= '9';
        }
    }

    /** Reads a TEXT; it leaves off at the first FAULT. */
    private static final class Reader {
        static final int NO_LINE = 0;
        static final int LANDS_LINE = 1;
        static final int BORDER_LINE = 2;
        static final int TYPE_LINE = 3;
        static final int LORRY_LINE = 4;

        /** What a NUMBER tells; those between ENGINE and LAND are a type's COST, COUNT, STAY. */
        static final int HOW_MANY_LANDS = 0;
        static final int REISSUE = 1;
        static final int PLACES = 2;
        static final int ENGINE = 3;
        static final int LAND = 7;
        /** By what a NUMBER tells; how far a LAND goes is told by the text itself. */
        private static final int[] LEAST = {1, 1, 2, 1, 0, 0, 0};
        private static final int[] MOST = {8, 9, 9, 6, 99, 9, 99};

        final Tokens tokens;
        /** The NUMBERS of a LINE, but for a type's LANDS. */
        final int[] numbers = new int[TERMS_OF_TYPE];
        int sort;
        int field;
        int typeKind;
        int landBits;
        int lines;
        int borderLines;
        int faultKind;
        int faultPlace;

        Reader(Tokens tokens) {
            this.tokens = tokens;
        }

        boolean readInto(Books told) {
            sort = NO_LINE;
            lines = 0;
            borderLines = 0;
            faultKind = 0;
            tokens.restart();
            boolean fine = true;
            // Each TOKEN has a byte or more ahead of the limit.
            for (int k = 0; k < MAX_TEXT && fine && tokens.kind != Tokens.END; k++) {
                fine = takeToken(told);
                if (fine) {
                    tokens.advance();
                }
            }
            return fine && (sort == NO_LINE && !tokens.isTooLong() || refuse(NO_TOKEN));
        }

        private boolean takeToken(Books told) {
            if (sort == NO_LINE) {
                return beginLine(told);
            }
            if (sort == TYPE_LINE && typeKind == NONE) {
                return takeKind();
            }
            if (tokens.kind == Tokens.SEMICOLON && isWhole()) {
                return endLine(told);
            }
            return takeNumber(told.lands);
        }

        private boolean beginLine(Books told) {
            int word = sortOfWord();
            if (word == NO_LINE || (word == LANDS_LINE) != (lines == 0)) {
                return refuse(NO_TOKEN);
            }
            if (word == BORDER_LINE && borderLines >= MAX_BORDER_LINES
                    || word == TYPE_LINE && told.permits.count >= MAX_TYPES
                    || word == LORRY_LINE && told.lorries.count >= MAX_LORRIES) {
                return refuse(ONE_TOO_MANY);
            }
            sort = word;
            field = 0;
            typeKind = NONE;
            landBits = 0;
            return true;
        }

        private int sortOfWord() {
            return tokens.isWord("lands") ? LANDS_LINE
                    : tokens.isWord("border") ? BORDER_LINE
                    : tokens.isWord("type") ? TYPE_LINE
                    : tokens.isWord("lorry") ? LORRY_LINE : NO_LINE;
        }

        private boolean takeKind() {
            typeKind = tokens.isWord("single") ? SINGLE
                    : tokens.isWord("multi") ? MULTI
                    : tokens.isWord("shared") ? SHARED : NONE;
            if (typeKind == NONE) {
                return refuse(NO_TOKEN);
            }
            if (typeKind != SHARED) {
                putNumber(1);
            }
            return true;
        }

        private boolean isWhole() {
            return sort == TYPE_LINE ? landBits != 0 : meaningNow() == NONE;
        }

        /** What the next NUMBER of the LINE tells; NONE if none can come. */
        private int meaningNow() {
            switch (sort) {
                case LANDS_LINE:
                    return field == 0 ? HOW_MANY_LANDS : field == 1 ? REISSUE : NONE;
                case BORDER_LINE:
                    return field < 2 ? LAND : NONE;
                case LORRY_LINE:
                    return field == 0 ? LAND : field == 1 ? ENGINE : NONE;
                default:
                    return Math.min(PLACES + field, LAND);
            }
        }

        private boolean takeNumber(Lands lands) {
            int meaning = meaningNow();
            if (tokens.kind != Tokens.NUMBER || meaning == NONE) {
                return refuse(NO_TOKEN);
            }
            int number = tokens.value;
            if (meaning == LAND) {
                if (!lands.has(number) || (landBits >> number & 1) != 0) {
                    return refuse(WRONG_NUMBER);
                }
                landBits |= 1 << number;
            } else if (!isInRange(meaning, number)) {
                return refuse(WRONG_NUMBER);
            }
            putNumber(number);
            return true;
        }

        private static boolean isInRange(int meaning, int number) {
            return meaning >= 0 && meaning < LEAST.length && meaning < MOST.length
                    && number >= LEAST[meaning] && number <= MOST[meaning];
        }

        private void putNumber(int number) {
            if (field >= 0 && field < numbers.length) {
                numbers[field] = number;
            }
            field++;
        }

        private boolean endLine(Books told) {
            switch (sort) {
                case LANDS_LINE:
                    told.lands.count = numbers[0];
                    told.permits.reissue = numbers[1];
                    break;
                case BORDER_LINE:
                    told.lands.addBorder(numbers[0], numbers[1]);
                    borderLines++;
                    break;
                case LORRY_LINE:
                    told.lorries.add(numbers[0], numbers[1]);
                    break;
                default:
                    told.permits.add(typeKind, numbers, landBits);
                    break;
            }
            lines++;
            sort = NO_LINE;
            return true;
        }

        private boolean refuse(int kind) {
            faultKind = kind;
            faultPlace = tokens.start;
            return false;
        }
    }

    /** All that a new TEXT begins anew. */
    private static final class Books {
        final Lands lands = new Lands();
        final Permits permits = new Permits();
        final Lorries lorries = new Lorries();
        final Trips trips = new Trips();
        final Acts acts = new Acts();
        int today;

        void clear() {
            lands.clear();
            permits.clear();
            lorries.clear();
            trips.count = 0;
            acts.kept = 0;
            today = 0;
        }

        /** Whether the type FITS the TRIP; not, if there are no such ones. */
        boolean suits(int type, int trip) {
            if (!permits.has(type) || !trips.has(trip) || !lorries.has(trips.ofLorry[trip])) {
                return false;
            }
            int lorry = trips.ofLorry[trip];
            int abroad = trips.landBits[trip] & ~(1 << lorries.homes[lorry]);
            return permits.isFor(type, abroad) && permits.suitsEngine(type, lorries.engines[lorry]);
        }

        boolean isOut(int lorry) {
            if (!lorries.has(lorry)) {
                return false;
            }
            int trip = lorries.tripNow[lorry];
            return trips.has(trip) && trips.states[trip] == OUT;
        }

        boolean isLate(int trip) {
            if (!trips.has(trip) || !permits.has(trips.byType[trip])) {
                return false;
            }
            return today - trips.outDays[trip] > permits.stays[trips.byType[trip]];
        }

        /** What STOPPED tells of a lorry in a LAND. */
        int judge(int lorry, int land) {
            if (!isOut(lorry)) {
                return NOT_OUT;
            }
            int trip = lorries.tripNow[lorry];
            if (!trips.has(trip) || (trips.landBits[trip] >> land & 1) == 0) {
                return OFF_ITS_ROW;
            }
            return isLate(trip) ? TOO_LATE : LAWFUL;
        }

        /** The lorry's bit, by which the act is kept: it has this one TRIP. 0 if none goes. */
        int sendOut(int trip, int type) {
            if (!trips.has(trip) || !permits.has(type)) {
                return 0;
            }
            trips.states[trip] = OUT;
            trips.byType[trip] = type;
            trips.outDays[trip] = today;
            permits.holders[type]++;
            return 1 << trips.ofLorry[trip];
        }

        /** A TRIP is DONE; one without a type was dropped, and no piece comes in. */
        void finish(int trip) {
            if (!trips.has(trip) || !lorries.has(trips.ofLorry[trip])) {
                return;
            }
            int lorry = trips.ofLorry[trip];
            int lateness = isLate(trip) ? 1 : 0;
            trips.states[trip] = DONE;
            trips.doneDays[trip] = today;
            trips.late[trip] = lateness;
            permits.giveUp(trips.byType[trip], lateness, 1);
            lorries.misuses[lorry] += lateness;
            lorries.tripNow[lorry] = NONE;
            lorries.tripsDone[lorry]++;
        }

        void takeBack(int act, int whom, int amount) {
            switch (act) {
                case ASKED:
                    takeBackTrip(whom);
                    break;
                case ASSIGNED:
                    callBack(amount);
                    break;
                case FINISHED:
                    reopen(whom);
                    break;
                case STOPPED:
                    takeBackMisuse(whom, amount);
                    break;
                case HANDED_BACK:
                    permits.moveBack(whom, -amount);
                    break;
                default:
                    today -= amount;
                    break;
            }
        }

        private void takeBackTrip(int lorry) {
            if (lorries.has(lorry) && trips.count > 0) {
                lorries.tripNow[lorry] = NONE;
                trips.count--;
            }
        }

        private void takeBackMisuse(int lorry, int misuse) {
            if (lorries.has(lorry)) {
                lorries.misuses[lorry] -= misuse;
            }
        }

        private void callBack(int lorryBits) {
            for (int lorry = 0; lorry < lorries.count; lorry++) {
                if ((lorryBits >> lorry & 1) != 0 && isOut(lorry)) {
                    waitAgain(lorries.tripNow[lorry]);
                }
            }
        }

        private void waitAgain(int trip) {
            if (!trips.has(trip) || !permits.has(trips.byType[trip])) {
                return;
            }
            permits.holders[trips.byType[trip]]--;
            trips.states[trip] = WAITS;
            trips.byType[trip] = NONE;
            trips.outDays[trip] = NONE;
        }

        private void reopen(int trip) {
            if (!trips.has(trip) || !lorries.has(trips.ofLorry[trip])) {
                return;
            }
            int lorry = trips.ofLorry[trip];
            int lateness = trips.late[trip];
            trips.states[trip] = trips.byType[trip] == NONE ? WAITS : OUT;
            trips.doneDays[trip] = NONE;
            trips.late[trip] = 0;
            permits.giveUp(trips.byType[trip], lateness, -1);
            lorries.misuses[lorry] -= lateness;
            lorries.tripNow[lorry] = trip;
            lorries.tripsDone[lorry]--;
        }
    }

    /** The LANDS and their borders. */
    private static final class Lands {
        final int[] neighbours = new int[MAX_LANDS];
        int count;
        int borders;

        void clear() {
            for (int land = 0; land < MAX_LANDS; land++) {
                neighbours[land] = 0;
            }
            count = 0;
            borders = 0;
        }

        boolean has(int land) {
            return land >= 0 && land < count;
        }

        boolean areJoined(int one, int other) {
            return has(one) && has(other) && (neighbours[one] >> other & 1) != 0;
        }

        void addBorder(int one, int other) {
            if (has(one) && has(other) && !areJoined(one, other)) {
                neighbours[one] |= 1 << other;
                neighbours[other] |= 1 << one;
                borders++;
            }
        }

        /** The LANDS of a ROW told by decimal digits; 0 if it can't be a ROW from there. */
        int bitsOfRow(int home, int row, int many) {
            int before = row % 10;
            if (before != home) {
                return 0;
            }
            int bits = 1 << home;
            int rest = row / 10;
            for (int k = 1; k < many; k++) {
                int land = rest % 10;
                if (!areJoined(before, land) || (bits >> land & 1) != 0) {
                    return 0;
                }
                bits |= 1 << land;
                before = land;
                rest /= 10;
            }
            return rest == 0 ? bits : 0;
        }

        /** How many LANDS the shortest ROW over the allowed ones has; NEVER if there is none. */
        int shortestRow(int home, int land, int allowed) {
            int reached = 1 << home;
            for (int many = LEAST_ROW; many <= MAX_LANDS; many++) {
                int next = reached;
                for (int k = 0; k < count; k++) {
                    if ((reached >> k & 1) != 0) {
                        next |= neighbours[k] & allowed;
                    }
                }
                if ((next >> land & 1) != 0) {
                    return many;
                }
                reached = next;
            }
            return NEVER;
        }
    }

    /** The types of permits, and where the PIECES of each are. */
    private static final class Permits {
        final int[] kinds = new int[MAX_TYPES];
        final int[] places = new int[MAX_TYPES];
        final int[] engines = new int[MAX_TYPES];
        final int[] costs = new int[MAX_TYPES];
        final int[] pieces = new int[MAX_TYPES];
        final int[] stays = new int[MAX_TYPES];
        final int[] landBits = new int[MAX_TYPES];
        final int[] holders = new int[MAX_TYPES];
        final int[] spent = new int[MAX_TYPES];
        final int[] lost = new int[MAX_TYPES];
        final int[] back = new int[MAX_TYPES];
        int count;
        int reissue = 1;

        void clear() {
            count = 0;
            reissue = 1;
            for (int type = 0; type < MAX_TYPES; type++) {
                holders[type] = 0;
                spent[type] = 0;
                lost[type] = 0;
                back[type] = 0;
            }
        }

        boolean has(int type) {
            return type >= 0 && type < count;
        }

        void add(int kind, int[] terms, int bits) {
            if (count < 0 || count >= MAX_TYPES || terms.length < TERMS_OF_TYPE) {
                return;
            }
            kinds[count] = kind;
            places[count] = terms[0];
            engines[count] = terms[1];
            costs[count] = terms[2];
            pieces[count] = terms[3];
            stays[count] = terms[4];
            landBits[count] = bits;
            count++;
        }

        boolean isFor(int type, int bits) {
            return (bits & ~landBits[type]) == 0;
        }

        boolean suitsEngine(int type, int engine) {
            return engine >= engines[type];
        }

        int countOut(int type) {
            int each = Math.max(1, places[type]);
            return (holders[type] + each - 1) / each;
        }

        int countReissued(int type) {
            return back[type] / Math.max(1, reissue);
        }

        int countIn(int type) {
            return pieces[type] + countReissued(type)
                    - countOut(type) - spent[type] - lost[type] - back[type];
        }

        int countFree(int type) {
            int untaken = countOut(type) * places[type] - holders[type];
            return countIn(type) * places[type] + untaken;
        }

        /** A lorry no longer holds a piece or place of a type; -1 times takes it back. */
        void giveUp(int type, int lateness, int times) {
            if (!has(type)) {
                return;
            }
            holders[type] -= times;
            if (kinds[type] == SINGLE && lateness == 0) {
                spent[type] += times;
            } else if (kinds[type] == SINGLE) {
                lost[type] += times;
            }
        }

        void moveBack(int type, int n) {
            if (has(type)) {
                spent[type] -= n;
                back[type] += n;
            }
        }
    }

    private static final class Lorries {
        final int[] homes = new int[MAX_LORRIES];
        final int[] engines = new int[MAX_LORRIES];
        final int[] tripNow = new int[MAX_LORRIES];
        final int[] misuses = new int[MAX_LORRIES];
        final int[] tripsDone = new int[MAX_LORRIES];
        int count;

        void clear() {
            count = 0;
            for (int lorry = 0; lorry < MAX_LORRIES; lorry++) {
                tripNow[lorry] = NONE;
                misuses[lorry] = 0;
                tripsDone[lorry] = 0;
            }
        }

        void add(int home, int engine) {
            if (count >= 0 && count < MAX_LORRIES) {
                homes[count] = home;
                engines[count] = engine;
                count++;
            }
        }

        boolean has(int lorry) {
            return lorry >= 0 && lorry < count;
        }

        int allMisuses() {
            int sum = 0;
            for (int lorry = 0; lorry < count; lorry++) {
                sum += misuses[lorry];
            }
            return sum;
        }
    }

    private static final class Trips {
        final int[] ofLorry = new int[MAX_TRIPS];
        final int[] sizes = new int[MAX_TRIPS];
        final int[] rows = new int[MAX_TRIPS];
        final int[] landBits = new int[MAX_TRIPS];
        final int[] states = new int[MAX_TRIPS];
        final int[] byType = new int[MAX_TRIPS];
        final int[] outDays = new int[MAX_TRIPS];
        final int[] doneDays = new int[MAX_TRIPS];
        final int[] late = new int[MAX_TRIPS];
        int count;

        boolean has(int trip) {
            return trip >= 0 && trip < count;
        }

        int add(int lorry, int row, int many, int bits) {
            if (count < 0 || count >= MAX_TRIPS) {
                return NONE;
            }
            int trip = count;
            ofLorry[trip] = lorry;
            rows[trip] = row;
            sizes[trip] = many;
            landBits[trip] = bits;
            states[trip] = WAITS;
            byType[trip] = NONE;
            outDays[trip] = NONE;
            doneDays[trip] = NONE;
            late[trip] = 0;
            count++;
            return trip;
        }

        int landOf(int trip, int k) {
            if (k < 0 || k >= sizes[trip]) {
                return NONE;
            }
            int rest = rows[trip];
            for (int before = 0; before < k; before++) {
                rest /= 10;
            }
            return rest % 10;
        }

        int countIn(int state) {
            int sum = 0;
            for (int trip = 0; trip < count; trip++) {
                if (states[trip] == state) {
                    sum++;
                }
            }
            return sum;
        }
    }

    /** The latest acts in a ring, the oldest given up for a new one. */
    private static final class Acts {
        final int[] kinds = new int[MAX_ACTS];
        final int[] whom = new int[MAX_ACTS];
        final int[] amounts = new int[MAX_ACTS];
        int next;
        int kept;

        void keep(int kind, int who, int amount) {
            if (next < 0 || next >= MAX_ACTS) {
                next = 0;
            }
            kinds[next] = kind;
            whom[next] = who;
            amounts[next] = amount;
            next = (next + 1) % MAX_ACTS;
            kept = Math.min(kept + 1, MAX_ACTS);
        }

        int takeLatest() {
            next = (Math.max(0, next) + MAX_ACTS - 1) % MAX_ACTS;
            kept--;
            return next;
        }
    }

    /**
     * Finds the PLAN. "None" counts as one more type, with room for all, so every TRIP is
     * given just one; the TRIPS come in one by one, each by the cheapest chain of moves.
     */
    private static final class Planner {
        static final int NO_TYPE = MAX_TYPES;
        static final int CHOICES = MAX_TYPES + 1;
        /** 7 to the 8th: any COST outweighs the choice among PLANS of like COST. */
        static final long A_COST = 5764801L;
        /** A TRIP that is not served outweighs the COST of all (8 times 99 at most). */
        static final long UNSERVED = 1000L * A_COST;
        static final long FAR = 1000L * UNSERVED;

        final int[] trips = new int[MAX_LORRIES];
        /** By TRIP and choice, a row a TRIP; FAR where the type does not FIT. */
        final long[] prices = new long[MAX_LORRIES * CHOICES];
        final int[] room = new int[CHOICES];
        final int[] left = new int[CHOICES];
        final int[] given = new int[MAX_LORRIES];
        final long[] dear = new long[CHOICES];
        /** The one that moves to a choice at the end of the cheapest chain to it. */
        final int[] mover = new int[CHOICES];
        int waiting;
        int servedCount;

        void setUp(Books books) {
            waiting = 0;
            for (int trip = 0; trip < books.trips.count; trip++) {
                if (books.trips.states[trip] == WAITS && waiting < MAX_LORRIES) {
                    trips[waiting] = trip;
                    waiting++;
                }
            }
            // The first TRIP's choice outweighs the second's, and so on: one PLAN alone is best.
            long weight = 1;
            for (int k = waiting - 1; k >= 0; k--) {
                setPrices(books, k, weight);
                weight *= CHOICES;
            }
            for (int type = 0; type < MAX_TYPES; type++) {
                room[type] = books.permits.has(type) ? books.permits.countFree(type) : 0;
            }
            room[NO_TYPE] = MAX_LORRIES;
        }

        private void setPrices(Books books, int k, long weight) {
            for (int type = 0; type < MAX_TYPES; type++) {
                prices[k * CHOICES + type] = books.suits(type, trips[k])
                        ? books.permits.costs[type] * A_COST + type * weight : FAR;
            }
            prices[k * CHOICES + NO_TYPE] = UNSERVED + NO_TYPE * weight;
        }

        void addFree(int type, int more) {
            room[type] = Math.max(0, room[type] + more);
        }

        void solve() {
            for (int choice = 0; choice < CHOICES; choice++) {
                left[choice] = room[choice];
            }
            for (int k = 0; k < waiting; k++) {
                given[k] = NONE;
            }
            for (int k = 0; k < waiting; k++) {
                findChains(k);
                moveAlong(k, cheapestOpen());
            }
            servedCount = 0;
            for (int k = 0; k < waiting; k++) {
                if (given[k] != NO_TYPE) {
                    servedCount++;
                }
            }
        }

        private void findChains(int newcomer) {
            for (int choice = 0; choice < CHOICES; choice++) {
                dear[choice] = prices[newcomer * CHOICES + choice];
                mover[choice] = newcomer;
            }
            // A chain comes to no choice twice, so so many rounds are enough.
            boolean changed = true;
            for (int round = 0; round < CHOICES && changed; round++) {
                changed = false;
                for (int k = 0; k < newcomer; k++) {
                    if (pushOn(k)) {
                        changed = true;
                    }
                }
            }
        }

        /** Whether some choice is reached cheaper when this TRIP makes room where it is. */
        private boolean pushOn(int k) {
            int from = given[k];
            if (from < 0 || dear[from] >= FAR) {
                return false;
            }
            boolean cheaper = false;
            for (int choice = 0; choice < CHOICES; choice++) {
                long price = prices[k * CHOICES + choice];
                long sum = dear[from] - prices[k * CHOICES + from] + price;
                if (price < FAR && sum < dear[choice]) {
                    dear[choice] = sum;
                    mover[choice] = k;
                    cheaper = true;
                }
            }
            return cheaper;
        }

        private int cheapestOpen() {
            int best = NO_TYPE;
            for (int choice = 0; choice < MAX_TYPES; choice++) {
                if (left[choice] > 0 && dear[choice] < dear[best]) {
                    best = choice;
                }
            }
            return best;
        }

        private void moveAlong(int newcomer, int open) {
            left[open]--;
            int to = open;
            for (int step = 0; step < CHOICES && to >= 0; step++) {
                int k = mover[to];
                int from = given[k];
                given[k] = to;
                to = k == newcomer ? NONE : from;
            }
        }

        int costTogether(Permits permits) {
            int sum = 0;
            for (int k = 0; k < waiting; k++) {
                if (permits.has(given[k])) {
                    sum += permits.costs[given[k]];
                }
            }
            return sum;
        }

        int typeFor(int trip) {
            for (int k = 0; k < waiting; k++) {
                if (trips[k] == trip && given[k] != NO_TYPE) {
                    return given[k];
                }
            }
            return NONE;
        }
    }
}
