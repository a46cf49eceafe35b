/** A book of the deposits of tenancies: what is claimed, answered, awarded and paid out of them. */
public final class TenancyDeposits {
    public static final int UNKNOWN = -1;
    public static final int BAD_VALUE = -2;
    public static final int FULL = -3;
    public static final int NOT_POSSIBLE = -4;
    public static final int NONE = -5;

    private static final int MOST_TENANCIES = 6;
    private static final int MOST_ITEMS = 24;
    private static final int MOST_STATES = 4;
    private static final int MOST_SIGNS = 60;
    private static final int MOST_POINTS = 10;
    private static final int LAST_DAY = 99999;

    /** The bits of 0.2f. */
    private static final int HIGHEST_RATE = 0x3E4CCCCD;

    private static final int RUNNING = 0;
    private static final int ENDED = 1;
    private static final int PUT = 2;
    private static final int CLOSED = 3;

    private static final int UNANSWERED = 0;
    private static final int ACCEPTED = 1;
    private static final int DISPUTED = 2;

    /** What can be summed over the items of a tenancy. */
    private static final int ITEMS = 0;
    private static final int WITH_CLAIM = 1;
    private static final int CLAIMS = 2;
    private static final int DUES = 3;
    private static final int DISPUTES = 4;
    private static final int DISPUTED_CLAIMS = 5;
    private static final int DISPUTED_AWARDS = 6;

    private final Book book = new Book();
    private final Book snapshot = new Book();
    private final History history = new History();
    private final AnswerText text = new AnswerText();
    /** What an open tenancy would come to; filled anew by each call that asks. */
    private final Settlement forecast = new Settlement();
    private boolean kept = false;

    public TenancyDeposits() {
    }

    // ---- settings

    public int setRate(int bits) {
        // From 0.0f on, the bits grow as the floats do, with NaN above all; what has a sign is below 0.
        if (outside(bits, 0, HIGHEST_RATE)) {
            return BAD_VALUE;
        }
        float rate = floatOf(bits);
        if (rate == book.rate) {
            return NONE;
        }
        history.push(book);
        book.rate = rate;
        return 1;
    }

    public int setFee(int cents) {
        if (outside(cents, 0, 50000)) {
            return BAD_VALUE;
        }
        int previous = book.fee;
        if (previous == cents) {
            return NONE;
        }
        history.push(book);
        book.fee = cents;
        return previous;
    }

    public int pass(int days) {
        if (outside(days, 1, 1000)) {
            return BAD_VALUE;
        }
        if (book.day + days > LAST_DAY) {
            return FULL;
        }
        history.push(book);
        book.day += days;
        return book.day;
    }

    // ---- tenancies and items

    public int begin(int deposit) {
        if (outside(deposit, 1000, 1000000)) {
            return BAD_VALUE;
        }
        if (book.tenancyCount >= MOST_TENANCIES) {
            return FULL;
        }
        history.push(book);
        return book.addTenancy(deposit);
    }

    public int addItem(int tenancy, int value, int life, int age, int condition) {
        Tenancy chosen = book.tenancyAt(tenancy);
        if (chosen == null) {
            return UNKNOWN;
        }
        if (outside(value, 100, 500000) || outside(life, 30, 9999)
                || outside(age, 0, 9999) || outside(condition, 0, 100)) {
            return BAD_VALUE;
        }
        if (chosen.state != RUNNING || chosen.beginDay != book.day) {
            return NOT_POSSIBLE;
        }
        if (book.itemCount >= MOST_ITEMS) {
            return FULL;
        }
        history.push(book);
        return book.newItem(tenancy, value, life, age, condition);
    }

    public int end(int tenancy) {
        Tenancy chosen = book.tenancyAt(tenancy);
        if (chosen == null) {
            return UNKNOWN;
        }
        if (chosen.state != RUNNING) {
            return NOT_POSSIBLE;
        }
        history.push(book);
        chosen.state = ENDED;
        chosen.endDay = book.day;
        book.expectFairConditions(tenancy);
        return book.daysOf(chosen);
    }

    public int inspect(int item, int condition) {
        Item chosen = book.itemAt(item);
        if (chosen == null) {
            return UNKNOWN;
        }
        if (outside(condition, 0, 100)) {
            return BAD_VALUE;
        }
        if (book.stateOf(chosen) != ENDED) {
            return NOT_POSSIBLE;
        }
        if (chosen.endCondition == condition) {
            return NONE;
        }
        history.push(book);
        chosen.tellEnd(book.daysOfItem(chosen), condition);
        return chosen.due;
    }

    // ---- claims and answers

    public int claim(int item, int cents) {
        Item chosen = book.itemAt(item);
        if (chosen == null) {
            return UNKNOWN;
        }
        if (outside(cents, 0, chosen.value)) {
            return BAD_VALUE;
        }
        if (book.stateOf(chosen) != ENDED) {
            return NOT_POSSIBLE;
        }
        int previous = chosen.claimed;
        if (previous == cents) {
            return NONE;
        }
        history.push(book);
        chosen.claimed = cents;
        return previous;
    }

    public int claimRent(int tenancy, int cents) {
        Tenancy chosen = book.tenancyAt(tenancy);
        if (chosen == null) {
            return UNKNOWN;
        }
        if (outside(cents, 0, 1000000)) {
            return BAD_VALUE;
        }
        if (chosen.state != ENDED) {
            return NOT_POSSIBLE;
        }
        int previous = chosen.rent;
        if (previous == cents) {
            return NONE;
        }
        history.push(book);
        chosen.rent = cents;
        return previous;
    }

    public int put(int tenancy) {
        Tenancy chosen = book.tenancyAt(tenancy);
        if (chosen == null) {
            return UNKNOWN;
        }
        if (chosen.state != ENDED) {
            return NOT_POSSIBLE;
        }
        history.push(book);
        chosen.state = PUT;
        return book.total(tenancy, WITH_CLAIM);
    }

    public int answer(int item, boolean accepted) {
        Item chosen = book.itemAt(item);
        if (chosen == null) {
            return UNKNOWN;
        }
        if (!book.canBeAnswered(chosen)) {
            return NOT_POSSIBLE;
        }
        int previous = chosen.reply;
        int reply = accepted ? ACCEPTED : DISPUTED;
        if (previous == reply) {
            return NONE;
        }
        history.push(book);
        chosen.reply = reply;
        return previous;
    }

    public int readAnswers() {
        if (!text.parse()) {
            return -100 - text.place;
        }
        int refusal = refusalOfText();
        if (refusal != 0) {
            return refusal;
        }
        history.push(book);
        for (int n = 0; n < text.size; n++) {
            takeAnswer(n);
        }
        return book.disputesOfAll();
    }

    public int setEvidence(int item, int landlord, int tenant) {
        Item chosen = book.itemAt(item);
        if (chosen == null) {
            return UNKNOWN;
        }
        if (outside(landlord, 0, MOST_POINTS) || outside(tenant, 0, MOST_POINTS)) {
            return BAD_VALUE;
        }
        int state = book.stateOf(chosen);
        if (state != ENDED && state != PUT) {
            return NOT_POSSIBLE;
        }
        history.push(book);
        chosen.landlordPoints = landlord;
        chosen.tenantPoints = tenant;
        return chosen.award();
    }

    public int close(int tenancy) {
        Tenancy chosen = book.tenancyAt(tenancy);
        if (chosen == null) {
            return UNKNOWN;
        }
        if (chosen.state != PUT) {
            return NOT_POSSIBLE;
        }
        history.push(book);
        book.settle(tenancy, chosen, chosen.settlement);
        chosen.closedInterest = book.interestOf(chosen);
        chosen.state = CLOSED;
        return chosen.settlement.left;
    }

    // ---- texts

    public int type(char character) {
        if (!text.append(character)) {
            return FULL;
        }
        return text.length;
    }

    public int clearText() {
        int previous = text.length;
        text.length = 0;
        return previous;
    }

    // ---- history

    public int undo() {
        Book latest = history.latest();
        if (latest == null) {
            return NONE;
        }
        book.copyFrom(latest);
        history.size--;
        return history.size;
    }

    public int keep() {
        snapshot.copyFrom(book);
        kept = true;
        return book.day;
    }

    public int restore() {
        if (!kept) {
            return NONE;
        }
        history.push(book);
        book.copyFrom(snapshot);
        return book.day;
    }

    // ---- what is told

    public float rate() {
        return book.rate;
    }

    public int tenancy(int tenancy, int what) {
        Tenancy chosen = book.tenancyAt(tenancy);
        if (chosen == null) {
            return UNKNOWN;
        }
        switch (what) {
            case 0:
                return chosen.deposit;
            case 1:
                return chosen.beginDay;
            case 2:
                return chosen.state;
            case 3:
                return book.daysOf(chosen);
            case 4:
                return book.interestOf(chosen);
            case 5:
                return book.total(tenancy, ITEMS);
            case 6:
                return chosen.rent;
            case 7:
                return book.total(tenancy, CLAIMS);
            case 8:
                return book.total(tenancy, DUES);
            case 9:
                return book.total(tenancy, DISPUTES);
            default:
                return BAD_VALUE;
        }
    }

    public int item(int item, int what) {
        Item chosen = book.itemAt(item);
        if (chosen == null) {
            return UNKNOWN;
        }
        switch (what) {
            case 0:
                return chosen.home;
            case 1:
                return chosen.value;
            case 2:
                return chosen.condition;
            case 3:
                return chosen.fairAfter(book.daysOfItem(chosen));
            case 4:
            case 5:
            case 6:
                return conditionFact(chosen, what);
            case 7:
                return chosen.claimed;
            case 8:
                return chosen.reply;
            case 9:
                return chosen.award();
            case 10:
                return chosen.ageAfter(book.daysOfItem(chosen));
            default:
                return BAD_VALUE;
        }
    }

    public float rest(int item) {
        Item chosen = book.itemAt(item);
        if (chosen == null) {
            return 0.0f / 0.0f;
        }
        return chosen.restAfter(book.daysOfItem(chosen));
    }

    public float weight(int item) {
        Item chosen = book.itemAt(item);
        if (chosen == null) {
            return 0.0f / 0.0f;
        }
        return chosen.landlordWeight();
    }

    public int reason(int item) {
        Item chosen = book.itemAt(item);
        if (chosen == null) {
            return UNKNOWN;
        }
        if (chosen.claimed == 0) {
            return 0;
        }
        if (chosen.reply != DISPUTED) {
            return 1;
        }
        return chosen.claimed <= chosen.due ? 2 : 3;
    }

    public int outcome(int tenancy, int what) {
        Tenancy chosen = book.tenancyAt(tenancy);
        if (chosen == null) {
            return UNKNOWN;
        }
        if (outside(what, 0, 5)) {
            return BAD_VALUE;
        }
        if (chosen.state == RUNNING) {
            return NOT_POSSIBLE;
        }
        if (chosen.state == CLOSED) {
            return chosen.settlement.fact(what);
        }
        book.settle(tenancy, chosen, forecast);
        return forecast.fact(what);
    }

    public int mostIn(int item, int days) {
        Item chosen = book.itemAt(item);
        if (chosen == null) {
            return UNKNOWN;
        }
        if (outside(days, 0, 9999)) {
            return BAD_VALUE;
        }
        if (book.stateOf(chosen) != RUNNING) {
            return NOT_POSSIBLE;
        }
        return chosen.dueAfter(book.daysOfItem(chosen) + days, 0);
    }

    public int count(int what) {
        switch (what) {
            case 0:
                return book.day;
            case 1:
                return book.tenancyCount;
            case 2:
            case 3:
            case 4:
            case 5:
                return book.tenanciesIn(what - 2);
            case 6:
                return book.itemCount;
            case 7:
                return book.fee;
            case 8:
            case 9:
            case 10:
            case 11:
                return closedSum(what);
            case 12:
                return history.size;
            case 13:
                return text.length;
            default:
                return BAD_VALUE;
        }
    }

    // ---- helpers of the calls

    private static boolean outside(int number, int least, int most) {
        return number < least || number > most;
    }

    /**
     * The float of bits that are not negative and not above those of 0.2f.
     * Each halving is exact, as the float that comes out at last can be told with the same signs.
     */
    private static float floatOf(int bits) {
        int exponent = bits >> 23;
        int signs = bits & 0x7FFFFF;
        if (exponent > 0) {
            signs += 0x800000;
        } else {
            exponent = 1;
        }
        float number = (float) signs;
        for (int power = exponent; power < 150; power++) {
            number = number / 2.0f;
        }
        return number;
    }

    /** What answer() would return for the first item of the text that it would refuse, or 0. */
    private int refusalOfText() {
        for (int n = 0; n < text.size; n++) {
            Item chosen = book.itemAt(text.itemOf(n));
            if (chosen == null) {
                return UNKNOWN;
            }
            if (!book.canBeAnswered(chosen)) {
                return NOT_POSSIBLE;
            }
        }
        return 0;
    }

    private void takeAnswer(int n) {
        Item chosen = book.itemAt(text.itemOf(n));
        if (chosen == null) {
            return;
        }
        chosen.reply = text.replyOf(n);
        int points = text.pointsOf(n);
        if (points >= 0) {
            chosen.tenantPoints = points;
        }
    }

    /** What is not known of an item before its tenancy has ended. */
    private int conditionFact(Item item, int what) {
        if (book.stateOf(item) == RUNNING) {
            return NONE;
        }
        if (what == 4) {
            return item.endCondition;
        }
        if (what == 5) {
            return item.damageAfter(book.daysOfItem(item), item.endCondition);
        }
        return item.due;
    }

    private int closedSum(int what) {
        int sum = 0;
        for (int i = 0; i < book.tenancyCount; i++) {
            Tenancy tenancy = book.tenancyAt(i);
            if (tenancy != null && tenancy.state == CLOSED) {
                sum += tenancy.settlement.part(what);
            }
        }
        return sum;
    }

    // ---- what the calls work on

    /** A state: everything but the text, the history and the snapshot. */
    private static final class Book {
        int day = 0;
        int fee = 5000;
        float rate = 0.02f;
        int tenancyCount = 0;
        int itemCount = 0;
        final Tenancy[] tenancies = new Tenancy[MOST_TENANCIES];
        final Item[] items = new Item[MOST_ITEMS];

        Book() {
            for (int i = 0; i < tenancies.length; i++) {
                tenancies[i] = new Tenancy();
            }
            for (int i = 0; i < items.length; i++) {
                items[i] = new Item();
            }
        }

        void copyFrom(Book other) {
            day = other.day;
            fee = other.fee;
            rate = other.rate;
            tenancyCount = other.tenancyCount;
            itemCount = other.itemCount;
            for (int i = 0; i < tenancyCount; i++) {
                Tenancy mine = tenancyAt(i);
                Tenancy theirs = other.tenancyAt(i);
                if (mine != null && theirs != null) {
                    mine.copyFrom(theirs);
                }
            }
            for (int i = 0; i < itemCount; i++) {
                Item mine = itemAt(i);
                Item theirs = other.itemAt(i);
                if (mine != null && theirs != null) {
                    mine.copyFrom(theirs);
                }
            }
        }

        /** The tenancy of this number, or null if there is none. */
        Tenancy tenancyAt(int number) {
            if (number < 0 || number >= tenancyCount || number >= tenancies.length) {
                return null;
            }
            return tenancies[number];
        }

        /** The item of this number, or null if there is none. */
        Item itemAt(int number) {
            if (number < 0 || number >= itemCount || number >= items.length) {
                return null;
            }
            return items[number];
        }

        int addTenancy(int deposit) {
            int number = tenancyCount;
            tenancyCount++;
            Tenancy fresh = tenancyAt(number);
            if (fresh != null) {
                fresh.start(deposit, day);
            }
            return number;
        }

        int newItem(int home, int value, int life, int age, int condition) {
            int number = itemCount;
            itemCount++;
            Item fresh = itemAt(number);
            if (fresh != null) {
                fresh.start(home, value, life, age, condition);
            }
            return number;
        }

        void expectFairConditions(int number) {
            for (int i = 0; i < itemCount; i++) {
                Item item = itemAt(i);
                if (item != null && item.home == number) {
                    int days = daysOfItem(item);
                    item.tellEnd(days, item.fairAfter(days));
                }
            }
        }

        int daysOf(Tenancy tenancy) {
            int last = tenancy.state == RUNNING ? day : tenancy.endDay;
            return last - tenancy.beginDay;
        }

        int daysOfItem(Item item) {
            Tenancy tenancy = tenancyAt(item.home);
            return tenancy == null ? 0 : daysOf(tenancy);
        }

        int stateOf(Item item) {
            Tenancy tenancy = tenancyAt(item.home);
            return tenancy == null ? RUNNING : tenancy.state;
        }

        boolean canBeAnswered(Item item) {
            return stateOf(item) == PUT && item.claimed > 0;
        }

        int interestOf(Tenancy tenancy) {
            if (tenancy.state == CLOSED) {
                return tenancy.closedInterest;
            }
            int days = day - tenancy.beginDay;
            return (int) ((float) tenancy.deposit * rate * (float) days / 365.0f);
        }

        int total(int number, int what) {
            int sum = 0;
            for (int i = 0; i < itemCount; i++) {
                Item item = itemAt(i);
                if (item != null && item.home == number) {
                    sum += shareOf(item, what);
                }
            }
            return sum;
        }

        int shareOf(Item item, int what) {
            boolean disputed = item.reply == DISPUTED;
            switch (what) {
                case ITEMS:
                    return 1;
                case WITH_CLAIM:
                    return item.claimed > 0 ? 1 : 0;
                case CLAIMS:
                    return item.claimed;
                case DUES:
                    return item.due;
                case DISPUTES:
                    return disputed ? 1 : 0;
                case DISPUTED_CLAIMS:
                    return disputed ? item.claimed : 0;
                case DISPUTED_AWARDS:
                    return disputed ? item.award() : 0;
                default:
                    return 0;
            }
        }

        int disputesOfAll() {
            int sum = 0;
            for (int i = 0; i < tenancyCount; i++) {
                sum += total(i, DISPUTES);
            }
            return sum;
        }

        int tenanciesIn(int state) {
            int number = 0;
            for (int i = 0; i < tenancyCount; i++) {
                Tenancy tenancy = tenancyAt(i);
                if (tenancy != null && tenancy.state == state) {
                    number++;
                }
            }
            return number;
        }

        /** Tells what a tenancy comes to if it is closed now. */
        void settle(int number, Tenancy tenancy, Settlement into) {
            into.start(tenancy.deposit + interestOf(tenancy));
            int claims = total(number, DISPUTED_CLAIMS);
            if (claims > 0) {
                int lost = claims - total(number, DISPUTED_AWARDS);
                int landlordFee = (int) ((float) fee * (float) lost / (float) claims);
                into.takeFee(landlordFee, fee - landlordFee);
            }
            for (int i = 0; i < itemCount; i++) {
                Item item = itemAt(i);
                if (item != null && item.home == number) {
                    into.payLandlord(item.award());
                }
            }
            into.payLandlord(tenancy.rent);
        }
    }

    private static final class Tenancy {
        int deposit = 0;
        int beginDay = 0;
        int state = RUNNING;
        int endDay = 0;
        int rent = 0;
        int closedInterest = 0;
        /** What it came to, once it is closed. */
        final Settlement settlement = new Settlement();

        void start(int cents, int day) {
            deposit = cents;
            beginDay = day;
            state = RUNNING;
            endDay = day;
            rent = 0;
            closedInterest = 0;
            settlement.start(0);
        }

        void copyFrom(Tenancy other) {
            deposit = other.deposit;
            beginDay = other.beginDay;
            state = other.state;
            endDay = other.endDay;
            rent = other.rent;
            closedInterest = other.closedInterest;
            settlement.copyFrom(other.settlement);
        }
    }

    private static final class Item {
        /** The number of its tenancy. */
        int home = 0;
        int value = 0;
        int life = 0;
        int age = 0;
        int condition = 0;
        int endCondition = 0;
        /** Kept with the condition at the end: both are set together, and 0 while its tenancy runs. */
        int due = 0;
        int claimed = 0;
        int reply = UNANSWERED;
        int landlordPoints = 0;
        int tenantPoints = 0;

        void start(int tenancy, int asNew, int lifeDays, int ageDays, int atBeginning) {
            home = tenancy;
            value = asNew;
            life = lifeDays;
            age = ageDays;
            condition = atBeginning;
            endCondition = 0;
            due = 0;
            claimed = 0;
            reply = UNANSWERED;
            landlordPoints = 0;
            tenantPoints = 0;
        }

        void copyFrom(Item other) {
            home = other.home;
            value = other.value;
            life = other.life;
            age = other.age;
            condition = other.condition;
            endCondition = other.endCondition;
            due = other.due;
            claimed = other.claimed;
            reply = other.reply;
            landlordPoints = other.landlordPoints;
            tenantPoints = other.tenantPoints;
        }

        int ageAfter(int days) {
            return age + days;
        }

        int fairAfter(int days) {
            if (life <= 0) {
                return 0;
            }
            return Math.max(condition - 100 * days / life, 0);
        }

        float restAfter(int days) {
            if (life <= 0) {
                return 0.0f;
            }
            float rest = 1.0f - (float) ageAfter(days) / (float) life;
            return rest < 0.0f ? 0.0f : rest;
        }

        int damageAfter(int days, int atEnd) {
            return Math.max(fairAfter(days) - atEnd, 0);
        }

        int dueAfter(int days, int atEnd) {
            float damage = (float) damageAfter(days, atEnd) / 100.0f;
            return (int) ((float) value * restAfter(days) * damage);
        }

        void tellEnd(int days, int atEnd) {
            endCondition = atEnd;
            due = dueAfter(days, atEnd);
        }

        int award() {
            if (reply != DISPUTED || claimed <= due) {
                return claimed;
            }
            return due + (int) ((float) (claimed - due) * landlordWeight());
        }

        float landlordWeight() {
            int points = landlordPoints + tenantPoints;
            return points > 0 ? (float) landlordPoints / (float) points : 0.5f;
        }
    }

    /** What is paid out of a pot, one position after the other, as far as it suffices. */
    private static final class Settlement {
        int pot = 0;
        int left = 0;
        int landlordGets = 0;
        int tenantFee = 0;
        int landlordFee = 0;
        int debt = 0;

        void start(int cents) {
            pot = cents;
            left = cents;
            landlordGets = 0;
            tenantFee = 0;
            landlordFee = 0;
            debt = 0;
        }

        void copyFrom(Settlement other) {
            pot = other.pot;
            left = other.left;
            landlordGets = other.landlordGets;
            tenantFee = other.tenantFee;
            landlordFee = other.landlordFee;
            debt = other.debt;
        }

        void takeFee(int ofLandlord, int ofTenant) {
            landlordFee = ofLandlord;
            tenantFee = take(ofTenant);
        }

        void payLandlord(int cents) {
            landlordGets += take(cents);
        }

        int take(int cents) {
            int taken = Math.min(cents, left);
            left -= taken;
            debt += cents - taken;
            return taken;
        }

        /** By the numbers of outcome(). */
        int fact(int what) {
            switch (what) {
                case 0:
                    return left;
                case 1:
                    return landlordGets;
                case 2:
                    return tenantFee;
                case 3:
                    return landlordFee;
                case 4:
                    return debt;
                default:
                    return pot;
            }
        }

        /** By the numbers of count(). */
        int part(int what) {
            switch (what) {
                case 8:
                    return left;
                case 9:
                    return landlordGets;
                case 10:
                    return tenantFee + landlordFee;
                default:
                    return debt;
            }
        }
    }

    /** The latest states, the oldest of which is dropped for one too many. */
    private static final class History {
        final Book[] states = new Book[MOST_STATES];
        int oldest = 0;
        int size = 0;

        History() {
            for (int i = 0; i < states.length; i++) {
                states[i] = new Book();
            }
        }

        void push(Book book) {
            if (size >= MOST_STATES) {
                oldest = (oldest + 1) % MOST_STATES;
                size--;
            }
            Book place = stateAt(size);
            if (place != null) {
                place.copyFrom(book);
                size++;
            }
        }

        /** The latest state, or null if there is none. */
        Book latest() {
            return size > 0 ? stateAt(size - 1) : null;
        }

        Book stateAt(int number) {
            int index = (oldest + number) % MOST_STATES;
            return index >= 0 && index < states.length ? states[index] : null;
        }
    }

    /** The text that is typed, and the answers that were read from it. */
    private static final class AnswerText {
        static final int END = -1;
        static final int NO_NUMBER = -1;

        final char[] signs = new char[MOST_SIGNS];
        int length = 0;
        /** The index of the sign that is read next; where reading stopped, of the fault. */
        int place = 0;
        int size = 0;
        /** An answer takes two signs at least. */
        final int[] itemNumbers = new int[MOST_SIGNS / 2];
        final int[] replies = new int[MOST_SIGNS / 2];
        final int[] tenantPoints = new int[MOST_SIGNS / 2];

        boolean append(char sign) {
            if (length < 0 || length >= signs.length) {
                return false;
            }
            signs[length] = sign;
            length++;
            return true;
        }

        int itemOf(int n) {
            return n >= 0 && n < itemNumbers.length ? itemNumbers[n] : UNKNOWN;
        }

        int replyOf(int n) {
            return n >= 0 && n < replies.length ? replies[n] : UNANSWERED;
        }

        /** The points of the tenant that the answer sets, or NO_NUMBER. */
        int pointsOf(int n) {
            return n >= 0 && n < tenantPoints.length ? tenantPoints[n] : NO_NUMBER;
        }

        /** Reads all answers; false if the text has a fault. */
        boolean parse() {
            size = 0;
            place = 0;
            for (int n = 0; n < MOST_SIGNS; n++) {
                if (!readOne()) {
                    return false;
                }
                int sign = next();
                if (sign != ',') {
                    return sign == END;
                }
                place++;
            }
            return false;
        }

        boolean readOne() {
            int item = readNumber(99);
            if (item == NO_NUMBER) {
                return false;
            }
            int sign = next();
            if (sign == 'a') {
                place++;
                note(item, ACCEPTED, NO_NUMBER);
                return true;
            }
            if (sign == 'd') {
                place++;
                note(item, DISPUTED, readNumber(MOST_POINTS));
                return true;
            }
            return false;
        }

        /** Reads a number of one or two digits; a digit that would make it more than most is left. */
        int readNumber(int most) {
            int number = digit();
            if (number == NO_NUMBER) {
                return NO_NUMBER;
            }
            place++;
            int second = digit();
            if (number == 0 || second == NO_NUMBER || 10 * number + second > most) {
                return number;
            }
            place++;
            return 10 * number + second;
        }

        int digit() {
            int sign = next();
            return sign >= '0' && sign <= '9' ? sign - '0' : NO_NUMBER;
        }

        int next() {
            return place >= 0 && place < length && place < signs.length ? signs[place] : END;
        }

        void note(int item, int reply, int points) {
            if (size >= 0 && size < itemNumbers.length && size < replies.length && size < tenantPoints.length) {
                itemNumbers[size] = item;
                replies[size] = reply;
                tenantPoints[size] = points;
                size++;
            }
        }
    }
}
