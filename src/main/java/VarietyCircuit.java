/** A booking office for music halls. The document's numbered promises say what each call answers. */
public final class VarietyCircuit {
    public static final int NONE = -1;

    private static final int NO_SUCH = -2;
    private static final int NO_ROOM = -3;

    private static final int WEEK_COUNT = 60;
    private static final int MOST_TURNS = 40;
    private static final int MOST_HALLS = 10;
    private static final int MOST_CONTRACTS = 60;
    private static final int MOST_STATEMENTS = 12;
    private static final int MOST_BOOKINGS = 400;
    private static final int MOST_ON_BILL = 9;
    private static final int TAPE_LENGTH = 600;
    private static final int FEED_LENGTH = 20;
    private static final int MOST_MILES_BETWEEN_WEEKS = 150;
    private static final int WEEKS_TILL_SAME_HALL = 8;

    private static final int TOP = 1;
    private static final int DUMB = 2;
    private static final int FRONT = 3;

    private static final int BAR_NOTHING = 0;
    private static final int BAR_NOT_AS_TOLD = 1;
    private static final int BAR_BOOKED = 2;
    private static final int BAR_TOO_FAR = 3;
    private static final int BAR_NEVER = 4;
    private static final int BAR_BY_ITS_CONTRACT = 5;
    private static final int BAR_BY_CONTRACT_OF_OTHER_WEEK = 6;
    private static final int BAR_ALIKE = 7;
    private static final int BAR_APART = 8;
    private static final int BAR_SAME_HALL = 9;
    private static final int BAR_BILL_IS_FULL = 10;
    private static final int BAR_TOO_LONG = 11;

    private final Turn[] turns;
    private final Hall[] halls;
    private final byte[] tape;
    // One bill and one order for all calls, gathered anew by each: a run's room is small.
    private final Bill gathered;
    private final BestOrder best;
    private int turnCount;
    private int hallCount;
    private int contractCount;
    private int bookingCount;
    private int tapeCount;
    private int now;
    private int faultPlace;

    public VarietyCircuit() {
        turns = new Turn[MOST_TURNS];
        halls = new Hall[MOST_HALLS];
        tape = new byte[TAPE_LENGTH];
        gathered = new Bill();
        best = new BestOrder();
        faultPlace = NONE;
    }

    public int weeks(int n) {
        if (n < 1 || n >= WEEK_COUNT - now) {
            return NONE;
        }
        now += n;
        return now;
    }

    public int turn(int minutes, int kind, boolean full, int like, int draw) {
        boolean told = isWithin(minutes, 3, 20) && isWithin(kind, 0, 3) && !(full && kind == FRONT)
                && isWithin(like, 0, 9) && isWithin(draw, 0, 99);
        if (!told || turnCount >= MOST_TURNS) {
            return NONE;
        }
        int number = turnCount;
        turns[number] = new Turn(number, minutes, kind, full, like, draw);
        turnCount++;
        return number;
    }

    public int hall(int mile, int seats, int minutes) {
        boolean told = isWithin(mile, 0, 300) && isWithin(seats, 1, 1000) && isWithin(minutes, 20, 120);
        if (!told || hallCount >= MOST_HALLS) {
            return NONE;
        }
        int number = hallCount;
        halls[number] = new Hall(number, mile, seats, minutes);
        hallCount++;
        return number;
    }

    public int feed(int a, int b, int c, int d, int e) {
        if (tapeCount > TAPE_LENGTH - FEED_LENGTH) {
            return NONE;
        }
        putBytes(a);
        putBytes(b);
        putBytes(c);
        putBytes(d);
        putBytes(e);
        return tapeCount;
    }

    public int sign(int turn, int from, int n) {
        Turn signer = turnAt(turn);
        if (signer == null || !isWeek(from) || n < 0 || n > tapeCount) {
            return NO_SUCH;
        }
        if (contractCount >= MOST_CONTRACTS) {
            return NO_ROOM;
        }
        ContractReader reader = new ContractReader(tape, n);
        boolean sound = reader.readText();
        tapeCount = 0;
        if (!sound) {
            faultPlace = reader.start;
            return NONE;
        }
        faultPlace = NONE;
        int number = contractCount;
        signer.latest = new Contract(number, from, now, reader.latest, signer.latest);
        contractCount++;
        return number;
    }

    public int fault() {
        return faultPlace;
    }

    public int force(int turn, int week, int known) {
        Contract contract = contractAsKnown(turnAt(turn), week, known);
        return contract == null ? NONE : contract.number;
    }

    public int why(int turn, int hall, int week) {
        return barTo(turnAt(turn), hallAt(hall), week);
    }

    public int book(int turn, int hall, int week) {
        Turn booked = turnAt(turn);
        Hall place = hallAt(hall);
        if (booked == null || place == null || bookingCount >= MOST_BOOKINGS) {
            return NONE;
        }
        if (barTo(booked, place, week) != BAR_NOTHING) {
            return NONE;
        }
        putOn(booked, place, week);
        gather(place, week);
        return gathered.size;
    }

    public boolean cancel(int turn, int week) {
        Turn booked = turnAt(turn);
        if (booked == null || !isOpen(week) || booked.hallIn(week) == null) {
            return false;
        }
        takeOff(booked, week);
        return true;
    }

    public int where(int turn, int week) {
        Turn asked = turnAt(turn);
        Hall place = asked == null ? null : asked.hallIn(week);
        return place == null ? NONE : place.number;
    }

    public int bill(int hall, int week, int what) {
        Hall place = hallAt(hall);
        if (place == null || !isWeek(week)) {
            return NONE;
        }
        gather(place, week);
        switch (what) {
            case 0:
                return gathered.size;
            case 1:
                return gathered.minutesOfAll();
            case 2:
                return place.seats * Math.min(100, 40 + gathered.drawOfTops()) / 100;
            case 3:
                return gathered.payOfAll(week, now);
            case 4:
                return gathered.topCount();
            default:
                return what < 10 ? NONE : gathered.numberAt(what - 10);
        }
    }

    public int order(int hall, int week, int k) {
        layBest(hall, week);
        return best.numberAt(k);
    }

    public int waits(int hall, int week) {
        layBest(hall, week);
        return best.sum;
    }

    public int fail(int turn, int week) {
        Turn failed = turnAt(turn);
        if (failed == null || !isOpen(week)) {
            return NO_SUCH;
        }
        Hall place = failed.hallIn(week);
        if (place == null) {
            return NO_SUCH;
        }
        takeOff(failed, week);
        failed.failures++;
        Turn standIn = greatestDraw(place, week, failed);
        if (standIn == null) {
            return NONE;
        }
        putOn(standIn, place, week);
        return standIn.number;
    }

    public int fill(int hall, int week, int n) {
        Hall place = hallAt(hall);
        if (place == null || !isOpen(week) || !isWithin(n, 0, MOST_ON_BILL)) {
            return NONE;
        }
        gather(place, week);
        int size = gathered.size;
        while (size < n && bookingCount < MOST_BOOKINGS) {
            Turn next = greatestDraw(place, week, null);
            if (next == null) {
                break;
            }
            putOn(next, place, week);
            size++;
        }
        return size;
    }

    public int pay(int turn, int week, int known) {
        Turn paid = turnAt(turn);
        if (paid == null || paid.hallIn(week) == null) {
            return 0;
        }
        Contract contract = contractAsKnown(paid, week, known);
        return contract == null ? 0 : contract.lastNumber(Statement.PAY);
    }

    public int turnOf(int turn, int what) {
        Turn asked = turnAt(turn);
        if (asked == null) {
            return NONE;
        }
        switch (what) {
            case 0:
                return asked.minutes;
            case 1:
                return asked.kind;
            case 2:
                return asked.full ? 1 : 0;
            case 3:
                return asked.like;
            case 4:
                return asked.draw;
            case 5:
                return asked.bookings;
            case 6:
                return asked.failures;
            default:
                return NONE;
        }
    }

    public int count(int what) {
        switch (what) {
            case 0:
                return now;
            case 1:
                return turnCount;
            case 2:
                return hallCount;
            case 3:
                return contractCount;
            case 4:
                return bookingCount;
            case 5:
                return tapeCount;
            default:
                return NONE;
        }
    }

    private static boolean isWithin(int value, int least, int most) {
        return value >= least && value <= most;
    }

    private static boolean isWeek(int week) {
        return week >= 0 && week < WEEK_COUNT;
    }

    private boolean isOpen(int week) {
        return week >= now && week < WEEK_COUNT;
    }

    private Turn turnAt(int number) {
        return isWithin(number, 0, turnCount - 1) ? turns[number] : null;
    }

    private Hall hallAt(int number) {
        return isWithin(number, 0, hallCount - 1) ? halls[number] : null;
    }

    private void putBytes(int four) {
        for (int shift = 24; shift >= 0 && tapeCount < TAPE_LENGTH; shift -= 8) {
            tape[tapeCount] = (byte) (four >>> shift);
            tapeCount++;
        }
    }

    private static Contract contractAsKnown(Turn signer, int week, int known) {
        if (signer == null || !isWeek(week) || !isWeek(known)) {
            return null;
        }
        return signer.contractIn(week, known);
    }

    private void gather(Hall place, int week) {
        gathered.size = 0;
        for (int i = 0; i < turnCount; i++) {
            Turn each = turnAt(i);
            if (each != null && each.hallIn(week) == place) {
                gathered.put(each);
            }
        }
    }

    private void layBest(int hall, int week) {
        Hall place = hallAt(hall);
        if (place == null || !isWeek(week)) {
            gathered.size = 0;
        } else {
            gather(place, week);
        }
        best.lay(gathered, week, now);
    }

    private void putOn(Turn booked, Hall place, int week) {
        booked.setHallIn(week, place);
        booked.bookings++;
        bookingCount++;
    }

    private void takeOff(Turn booked, int week) {
        booked.setHallIn(week, null);
        booked.bookings--;
        bookingCount--;
    }

    /** Of the TURNS that nothing bars there, but for one, the one with the greatest DRAW; null: none. */
    private Turn greatestDraw(Hall place, int week, Turn butFor) {
        Turn greatest = null;
        for (int i = 0; i < turnCount; i++) {
            Turn each = turnAt(i);
            if (each == null || each == butFor || (greatest != null && each.draw <= greatest.draw)) {
                continue;
            }
            if (barTo(each, place, week) == BAR_NOTHING) {
                greatest = each;
            }
        }
        return greatest;
    }

    private int barTo(Turn booked, Hall place, int week) {
        if (booked == null || place == null || !isOpen(week)) {
            return BAR_NOT_AS_TOLD;
        }
        if (booked.hallIn(week) != null) {
            return BAR_BOOKED;
        }
        if (isTooFar(booked.hallIn(week - 1), place) || isTooFar(booked.hallIn(week + 1), place)) {
            return BAR_TOO_FAR;
        }
        Contract own = booked.contractIn(week, now);
        if (own != null && own.isNeverIn(place)) {
            return BAR_NEVER;
        }
        if (own != null && isBarredByOwn(booked, place, week, own)) {
            return BAR_BY_ITS_CONTRACT;
        }
        if (isBarredByOtherWeeks(booked, place, week)) {
            return BAR_BY_CONTRACT_OF_OTHER_WEEK;
        }
        return barOnBill(booked, place, week, own);
    }

    private int barOnBill(Turn booked, Hall place, int week, Contract own) {
        gather(place, week);
        if (gathered.hasLike(booked.like)) {
            return BAR_ALIKE;
        }
        if (gathered.isApartFrom(booked, own, week, now)) {
            return BAR_APART;
        }
        if (booked.isSoonIn(place, week)) {
            return BAR_SAME_HALL;
        }
        if (gathered.size >= MOST_ON_BILL) {
            return BAR_BILL_IS_FULL;
        }
        return gathered.minutesOfAll() + booked.minutes > place.minutes ? BAR_TOO_LONG : BAR_NOTHING;
    }

    private static boolean isTooFar(Hall other, Hall place) {
        return other != null && other.milesTo(place) > MOST_MILES_BETWEEN_WEEKS;
    }

    private static boolean isBarredByOwn(Turn booked, Hall place, int week, Contract own) {
        for (int w = 0; w < WEEK_COUNT; w++) {
            Hall other = booked.hallIn(w);
            if (other != null && own.hasBar(other.milesTo(place), Math.abs(w - week))) {
                return true;
            }
        }
        return false;
    }

    private boolean isBarredByOtherWeeks(Turn booked, Hall place, int week) {
        for (int w = 0; w < WEEK_COUNT; w++) {
            Hall other = booked.hallIn(w);
            if (other == null) {
                continue;
            }
            Contract theirs = booked.contractIn(w, now);
            if (theirs != null && theirs.hasBar(other.milesTo(place), Math.abs(w - week))) {
                return true;
            }
        }
        return false;
    }

    private static final class Hall {
        final int number;
        final int mile;
        final int seats;
        final int minutes;

        Hall(int number, int mile, int seats, int minutes) {
            this.number = number;
            this.mile = mile;
            this.seats = seats;
            this.minutes = minutes;
        }

        int milesTo(Hall other) {
            return Math.abs(mile - other.mile);
        }
    }

    private static final class Turn {
        final int number;
        final int minutes;
        final int kind;
        final boolean full;
        final int like;
        final int draw;
        private final Hall[] hallByWeek;
        Contract latest;
        int bookings;
        int failures;

        Turn(int number, int minutes, int kind, boolean full, int like, int draw) {
            this.number = number;
            this.minutes = minutes;
            this.kind = kind;
            this.full = full;
            this.like = like;
            this.draw = draw;
            hallByWeek = new Hall[WEEK_COUNT];
        }

        Hall hallIn(int week) {
            return isWeek(week) ? hallByWeek[week] : null;
        }

        void setHallIn(int week, Hall place) {
            if (isWeek(week)) {
                hallByWeek[week] = place;
            }
        }

        boolean isSoonIn(Hall place, int week) {
            for (int w = week - WEEKS_TILL_SAME_HALL + 1; w < week + WEEKS_TILL_SAME_HALL; w++) {
                if (hallIn(w) == place) {
                    return true;
                }
            }
            return false;
        }

        Contract contractIn(int week, int known) {
            Contract found = null;
            // From the latest one back, so that of several from one week the first met is the latest.
            for (Contract each = latest; each != null; each = each.earlier) {
                boolean counts = each.signed <= known && each.from <= week;
                if (counts && (found == null || each.from > found.from)) {
                    found = each;
                }
            }
            return found;
        }
    }

    /** A statement of a CONTRACT, and the one told before it. */
    private static final class Statement {
        static final int BAR = 0;
        static final int APART_LIKE = 1;
        static final int APART_TURN = 2;
        static final int NEVER_HALL = 3;
        static final int PAY = 4;
        static final int PLACE = 5;

        final int kind;
        final int number;
        final int weeksAway;
        final Statement earlier;

        Statement(int kind, int number, int weeksAway, Statement earlier) {
            this.kind = kind;
            this.number = number;
            this.weeksAway = weeksAway;
            this.earlier = earlier;
        }
    }

    /** A CONTRACT, and the one that its TURN signed before it. */
    private static final class Contract {
        final int number;
        final int from;
        final int signed;
        final Contract earlier;
        private final Statement latest;

        Contract(int number, int from, int signed, Statement latest, Contract earlier) {
            this.number = number;
            this.from = from;
            this.signed = signed;
            this.latest = latest;
            this.earlier = earlier;
        }

        /** The number of the last statement of a kind; 0: there is none. */
        int lastNumber(int kind) {
            for (Statement each = latest; each != null; each = each.earlier) {
                if (each.kind == kind) {
                    return each.number;
                }
            }
            return 0;
        }

        boolean isNeverIn(Hall place) {
            return tells(Statement.NEVER_HALL, place.number);
        }

        boolean isApartFrom(Turn other) {
            return tells(Statement.APART_LIKE, other.like) || tells(Statement.APART_TURN, other.number);
        }

        boolean hasBar(int miles, int weeksBetween) {
            for (Statement each = latest; each != null; each = each.earlier) {
                if (each.kind == Statement.BAR && miles < each.number && weeksBetween <= each.weeksAway) {
                    return true;
                }
            }
            return false;
        }

        private boolean tells(int kind, int number) {
            for (Statement each = latest; each != null; each = each.earlier) {
                if (each.kind == kind && each.number == number) {
                    return true;
                }
            }
            return false;
        }
    }

    /** Reads a text token by token; where it stops unsound, the token in hand is the FAULT. */
    private static final class ContractReader {
        private final byte[] bytes;
        private final int length;
        private int end;
        int start;
        Statement latest;

        ContractReader(byte[] bytes, int length) {
            this.bytes = bytes;
            this.length = Math.min(length, bytes.length);
        }

        boolean readText() {
            for (int told = 0; told <= MOST_STATEMENTS; told++) {
                step();
                if (start >= length) {
                    return true;
                }
                if (told == MOST_STATEMENTS || !readStatement()) {
                    return false;
                }
            }
            return false;
        }

        private boolean readStatement() {
            int kind = readOpening();
            int number = kind == NONE ? NONE : stepToNumber();
            if (number == NONE) {
                return false;
            }
            int weeksAway = 0;
            if (kind == Statement.BAR) {
                weeksAway = stepTo("weeks") ? stepToNumber() : NONE;
            }
            if (weeksAway == NONE || !stepTo(";")) {
                return false;
            }
            latest = new Statement(kind, number, weeksAway, latest);
            return true;
        }

        /** The kind of statement that the words ahead of its first number begin; NONE: no kind. */
        private int readOpening() {
            if (holds("bar")) {
                return Statement.BAR;
            }
            if (holds("pay")) {
                return Statement.PAY;
            }
            if (holds("place")) {
                return Statement.PLACE;
            }
            if (holds("never")) {
                return stepTo("hall") ? Statement.NEVER_HALL : NONE;
            }
            if (!holds("apart")) {
                return NONE;
            }
            if (stepTo("like")) {
                return Statement.APART_LIKE;
            }
            return holds("turn") ? Statement.APART_TURN : NONE;
        }

        private boolean stepTo(String token) {
            step();
            return holds(token);
        }

        private int stepToNumber() {
            step();
            if (!isDigit(start) || end - start > 3) {
                return NONE;
            }
            int value = 0;
            for (int at = start; at < end; at++) {
                value = value * 10 + byteAt(at) - '0';
            }
            return value;
        }

        /** Takes the next token in hand; behind the last one, the empty one at the text's length. */
        private void step() {
            start = end;
            while (start < length && isBlank(start)) {
                start++;
            }
            end = start;
            if (isLetter(start)) {
                while (end < length && isLetter(end)) {
                    end++;
                }
            } else if (isDigit(start)) {
                while (end < length && isDigit(end)) {
                    end++;
                }
            } else if (start < length) {
                end++;
            }
        }

        private boolean holds(String token) {
            if (end - start != token.length()) {
                return false;
            }
            for (int i = 0; i < token.length(); i++) {
                if (byteAt(start + i) != token.charAt(i)) {
                    return false;
                }
            }
            return true;
        }

        private int byteAt(int at) {
            return at >= 0 && at < length ? bytes[at] : 0;
        }

        private boolean isBlank(int at) {
            return byteAt(at) == ' ' || byteAt(at) == '\n';
        }

        private boolean isLetter(int at) {
            return isWithin(byteAt(at), 'a', 'z');
        }

        private boolean isDigit(int at) {
            return isWithin(byteAt(at), '0', '9');
        }
    }

    /** The TURNS on a bill, by numbers. */
    private static final class Bill {
        private final Turn[] members;
        int size;

        Bill() {
            members = new Turn[MOST_ON_BILL];
        }

        void put(Turn member) {
            if (size < MOST_ON_BILL) {
                members[size] = member;
                size++;
            }
        }

        Turn memberAt(int i) {
            return isWithin(i, 0, size - 1) ? members[i] : null;
        }

        int numberAt(int i) {
            Turn member = memberAt(i);
            return member == null ? NONE : member.number;
        }

        int minutesOfAll() {
            int sum = 0;
            for (int i = 0; i < size; i++) {
                Turn member = memberAt(i);
                sum += member == null ? 0 : member.minutes;
            }
            return sum;
        }

        int payOfAll(int week, int known) {
            int sum = 0;
            for (int i = 0; i < size; i++) {
                Turn member = memberAt(i);
                Contract theirs = member == null ? null : member.contractIn(week, known);
                sum += theirs == null ? 0 : theirs.lastNumber(Statement.PAY);
            }
            return sum;
        }

        int topCount() {
            int tops = 0;
            for (int i = 0; i < size; i++) {
                Turn member = memberAt(i);
                tops += member != null && member.kind == TOP ? 1 : 0;
            }
            return tops;
        }

        int drawOfTops() {
            int sum = 0;
            for (int i = 0; i < size; i++) {
                Turn member = memberAt(i);
                sum += member != null && member.kind == TOP ? member.draw : 0;
            }
            return sum;
        }

        boolean hasLike(int like) {
            for (int i = 0; i < size; i++) {
                Turn member = memberAt(i);
                if (member != null && member.like == like) {
                    return true;
                }
            }
            return false;
        }

        boolean isApartFrom(Turn other, Contract othersOwn, int week, int known) {
            for (int i = 0; i < size; i++) {
                Turn member = memberAt(i);
                Contract theirs = member == null ? null : member.contractIn(week, known);
                if (theirs != null && theirs.isApartFrom(other)) {
                    return true;
                }
                if (member != null && othersOwn != null && othersOwn.isApartFrom(member)) {
                    return true;
                }
            }
            return false;
        }
    }

    /** Lays a bill in its BEST ORDER; its members stand for themselves as bits of sets. */
    private static final class BestOrder {
        private static final int NO_ORDER = 1000;

        private final boolean[] isFront;
        private final boolean[] isFull;
        // By place, from 0 on: the set of the members that may stand there.
        private final int[] mayStand;
        // By set and member: the least sum of WAITS behind that member, when that set is laid and it is the last.
        private final int[] leastBehind;
        private final int[] laid;
        private int size;
        int sum;

        BestOrder() {
            isFront = new boolean[MOST_ON_BILL];
            isFull = new boolean[MOST_ON_BILL];
            mayStand = new int[MOST_ON_BILL];
            leastBehind = new int[(1 << MOST_ON_BILL) * MOST_ON_BILL];
            laid = new int[MOST_ON_BILL];
            sum = NONE;
        }

        int numberAt(int k) {
            return sum != NONE && isWithin(k, 0, size - 1) ? laid[k] : NONE;
        }

        /** Afterwards sum is that of its WAITS; NONE: no TURN is on the bill, or no ORDER there is. */
        void lay(Bill bill, int week, int known) {
            size = Math.min(bill.size, MOST_ON_BILL);
            sum = NONE;
            if (size > 0) {
                findWhoMayStand(bill, week, known);
                findLeast();
                layLeast(bill);
            }
        }

        private void findWhoMayStand(Bill bill, int week, int known) {
            for (int place = 0; place < size; place++) {
                mayStand[place] = 0;
            }
            for (int i = 0; i < size; i++) {
                Turn member = bill.memberAt(i);
                isFront[i] = member != null && member.kind == FRONT;
                isFull[i] = member != null && member.full;
                boolean dumb = member != null && member.kind == DUMB;
                Contract theirs = member == null ? null : member.contractIn(week, known);
                int told = theirs == null ? 0 : theirs.lastNumber(Statement.PLACE);
                boolean bound = isWithin(told, 1, size);
                for (int place = 0; place < size; place++) {
                    boolean atEnd = place == 0 || place == size - 1;
                    if ((!dumb || atEnd) && (!bound || place == told - 1)) {
                        mayStand[place] |= 1 << i;
                    }
                }
            }
        }

        private void findLeast() {
            for (int set = (1 << size) - 1; set > 0; set--) {
                int placed = Integer.bitCount(set);
                int lasts = set & mayStand[placed - 1];
                for (int last = 0; last < size; last++) {
                    if (has(lasts, last)) {
                        leastBehind[set * MOST_ON_BILL + last] = leastFrom(set, placed, last);
                    }
                }
            }
        }

        private int leastFrom(int set, int placed, int last) {
            if (placed >= size) {
                return 0;
            }
            int nexts = mayStand[placed] & ~set;
            int least = NO_ORDER;
            for (int next = 0; next < size; next++) {
                if (has(nexts, next)) {
                    least = Math.min(least, sumThrough(set, last, next));
                }
            }
            return least;
        }

        private int sumThrough(int set, int last, int next) {
            return waitBetween(last, next) + leastBehind[(set | 1 << next) * MOST_ON_BILL + next];
        }

        private int waitBetween(int one, int other) {
            if (isFull[one] && isFull[other]) {
                return NO_ORDER;
            }
            if (isFront[one] || isFront[other]) {
                return 0;
            }
            return isFull[one] || isFull[other] ? 2 : 1;
        }

        private void layLeast(Bill bill) {
            int last = firstOfLeast();
            if (last == NONE) {
                return;
            }
            sum = leastBehind[(1 << last) * MOST_ON_BILL + last];
            laid[0] = bill.numberAt(last);
            int set = 1 << last;
            for (int place = 1; place < size && last != NONE; place++) {
                last = nextOfLeast(set, place, last);
                laid[place] = bill.numberAt(last);
                set |= last == NONE ? 0 : 1 << last;
            }
        }

        private int firstOfLeast() {
            int first = NONE;
            int least = NO_ORDER;
            for (int i = 0; i < size; i++) {
                if (has(mayStand[0], i) && leastBehind[(1 << i) * MOST_ON_BILL + i] < least) {
                    least = leastBehind[(1 << i) * MOST_ON_BILL + i];
                    first = i;
                }
            }
            return first;
        }

        private int nextOfLeast(int set, int place, int last) {
            int nexts = mayStand[place] & ~set;
            int least = leastBehind[set * MOST_ON_BILL + last];
            for (int next = 0; next < size; next++) {
                if (has(nexts, next) && sumThrough(set, last, next) == least) {
                    return next;
                }
            }
            return NONE;
        }

        private static boolean has(int set, int member) {
            return (set >> member & 1) != 0;
        }
    }
}
