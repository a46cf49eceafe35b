import java.util.ArrayDeque;
import java.util.ArrayList;
import java.util.Deque;
import java.util.List;
import java.util.regex.Matcher;
import java.util.regex.Pattern;

/** The document once more, written another way: whole states are copied, and everything is worked out when asked. */
final class Model {
    private static final Pattern ANSWER = Pattern.compile("(0|[1-9][0-9]?)(a|d(10|[0-9])?)");
    private static final Pattern ANSWERS = Pattern.compile(ANSWER.pattern() + "(," + ANSWER.pattern() + ")*");

    static final class Item {
        Tenancy home;
        int homeNumber, value, life, age, condition, claim, answer, landlord, tenant;
        Integer told;
    }

    static final class Tenancy {
        int deposit, begin, state, rent, end;
        int interest;
        int[] result;
    }

    static final class State {
        int day, fee = 5000;
        float rate = 0.02f;
        final List<Tenancy> tenancies = new ArrayList<>();
        final List<Item> items = new ArrayList<>();

        State copy() {
            State copy = new State();
            copy.day = day;
            copy.fee = fee;
            copy.rate = rate;
            for (Tenancy t : tenancies) {
                Tenancy n = new Tenancy();
                n.deposit = t.deposit;
                n.begin = t.begin;
                n.state = t.state;
                n.rent = t.rent;
                n.end = t.end;
                n.interest = t.interest;
                n.result = t.result;
                copy.tenancies.add(n);
            }
            for (Item i : items) {
                Item n = new Item();
                n.homeNumber = i.homeNumber;
                n.home = copy.tenancies.get(i.homeNumber);
                n.value = i.value;
                n.life = i.life;
                n.age = i.age;
                n.condition = i.condition;
                n.claim = i.claim;
                n.answer = i.answer;
                n.landlord = i.landlord;
                n.tenant = i.tenant;
                n.told = i.told;
                copy.items.add(n);
            }
            return copy;
        }
    }

    private State now = new State();
    private State kept = null;
    private final Deque<State> history = new ArrayDeque<>();
    private String text = "";

    private void act() {
        history.addLast(now.copy());
        if (history.size() > 4) {
            history.removeFirst();
        }
    }

    private Tenancy tenancyOrNull(int n) {
        return n >= 0 && n < now.tenancies.size() ? now.tenancies.get(n) : null;
    }

    private Item itemOrNull(int n) {
        return n >= 0 && n < now.items.size() ? now.items.get(n) : null;
    }

    private static boolean in(int x, int low, int high) {
        return low <= x && x <= high;
    }

    private int days(Tenancy t) {
        return (t.state == 0 ? now.day : t.end) - t.begin;
    }

    private int fair(Item i, int days) {
        return Math.max(0, i.condition - Math.floorDiv(100 * days, i.life));
    }

    private float rest(Item i, int days) {
        float age = i.age + days;
        float rest = 1.0f - age / i.life;
        return Math.max(rest, 0.0f);
    }

    private int due(Item i, int days, int atEnd) {
        float damage = Math.max(0, fair(i, days) - atEnd);
        float part = damage / 100.0f;
        float product = i.value * rest(i, days);
        return (int) (product * part);
    }

    private int conditionAtEnd(Item i) {
        return i.told != null ? i.told : fair(i, days(i.home));
    }

    private int due(Item i) {
        return i.home.state == 0 ? 0 : due(i, days(i.home), conditionAtEnd(i));
    }

    private float weight(Item i) {
        int sum = i.landlord + i.tenant;
        return sum == 0 ? 0.5f : (float) i.landlord / sum;
    }

    private int award(Item i) {
        int due = due(i);
        if (i.answer != 2 || i.claim <= due) {
            return i.claim;
        }
        float weighed = (i.claim - due) * weight(i);
        return due + (int) weighed;
    }

    private int interest(Tenancy t) {
        if (t.state == 3) {
            return t.interest;
        }
        float product = t.deposit * now.rate;
        product = product * (now.day - t.begin);
        return (int) (product / 365.0f);
    }

    private int[] result(Tenancy t) {
        int pot = t.deposit + interest(t);
        int claims = 0;
        int lost = 0;
        boolean disputed = false;
        List<Integer> positions = new ArrayList<>();
        for (Item i : now.items) {
            if (i.home == t) {
                positions.add(award(i));
                if (i.answer == 2) {
                    disputed = true;
                    claims += i.claim;
                    lost += i.claim - award(i);
                }
            }
        }
        positions.add(t.rent);
        int landlordFee = 0;
        int tenantFee = 0;
        if (disputed) {
            float product = (float) now.fee * lost;
            landlordFee = (int) (product / claims);
            tenantFee = now.fee - landlordFee;
        }
        int rest = pot;
        int debt = 0;
        int feeTaken = Math.min(rest, tenantFee);
        rest -= feeTaken;
        debt += tenantFee - feeTaken;
        int landlordGets = 0;
        for (int position : positions) {
            int taken = Math.min(rest, position);
            rest -= taken;
            landlordGets += taken;
            debt += position - taken;
        }
        return new int[] {rest, landlordGets, feeTaken, landlordFee, debt, pot};
    }

    int setRate(int bits) {
        float rate = Float.intBitsToFloat(bits);
        if (!(rate >= 0.0f && rate <= 0.2f) || bits == Float.floatToRawIntBits(-0.0f)) {
            return -2;
        }
        if (rate == now.rate) {
            return -5;
        }
        act();
        now.rate = rate;
        return 1;
    }

    int setFee(int cents) {
        if (!in(cents, 0, 50000)) {
            return -2;
        }
        if (now.fee == cents) {
            return -5;
        }
        act();
        int old = now.fee;
        now.fee = cents;
        return old;
    }

    int pass(int days) {
        if (!in(days, 1, 1000)) {
            return -2;
        }
        if (now.day + days > 99999) {
            return -3;
        }
        act();
        now.day += days;
        return now.day;
    }

    int begin(int deposit) {
        if (!in(deposit, 1000, 1000000)) {
            return -2;
        }
        if (now.tenancies.size() == 6) {
            return -3;
        }
        act();
        Tenancy t = new Tenancy();
        t.deposit = deposit;
        t.begin = now.day;
        now.tenancies.add(t);
        return now.tenancies.size() - 1;
    }

    int addItem(int tenancy, int value, int life, int age, int condition) {
        if (tenancyOrNull(tenancy) == null) {
            return -1;
        }
        if (!in(value, 100, 500000) || !in(life, 30, 9999) || !in(age, 0, 9999) || !in(condition, 0, 100)) {
            return -2;
        }
        if (tenancyOrNull(tenancy).state != 0 || tenancyOrNull(tenancy).begin != now.day) {
            return -4;
        }
        if (now.items.size() == 24) {
            return -3;
        }
        act();
        Item i = new Item();
        i.homeNumber = tenancy;
        i.home = now.tenancies.get(tenancy);
        i.value = value;
        i.life = life;
        i.age = age;
        i.condition = condition;
        now.items.add(i);
        return now.items.size() - 1;
    }

    int end(int tenancy) {
        Tenancy t = tenancyOrNull(tenancy);
        if (t == null) {
            return -1;
        }
        if (t.state != 0) {
            return -4;
        }
        act();
        t.state = 1;
        t.end = now.day;
        return days(t);
    }

    int inspect(int item, int condition) {
        Item i = itemOrNull(item);
        if (i == null) {
            return -1;
        }
        if (!in(condition, 0, 100)) {
            return -2;
        }
        if (i.home.state != 1) {
            return -4;
        }
        if (conditionAtEnd(i) == condition) {
            return -5;
        }
        act();
        i.told = condition;
        return due(i);
    }

    int claim(int item, int cents) {
        Item i = itemOrNull(item);
        if (i == null) {
            return -1;
        }
        if (!in(cents, 0, i.value)) {
            return -2;
        }
        if (i.home.state != 1) {
            return -4;
        }
        if (i.claim == cents) {
            return -5;
        }
        act();
        int old = i.claim;
        i.claim = cents;
        return old;
    }

    int claimRent(int tenancy, int cents) {
        Tenancy t = tenancyOrNull(tenancy);
        if (t == null) {
            return -1;
        }
        if (!in(cents, 0, 1000000)) {
            return -2;
        }
        if (t.state != 1) {
            return -4;
        }
        if (t.rent == cents) {
            return -5;
        }
        act();
        int old = t.rent;
        t.rent = cents;
        return old;
    }

    int put(int tenancy) {
        Tenancy t = tenancyOrNull(tenancy);
        if (t == null) {
            return -1;
        }
        if (t.state != 1) {
            return -4;
        }
        act();
        t.state = 2;
        int claims = 0;
        for (Item i : now.items) {
            claims += i.home == t && i.claim > 0 ? 1 : 0;
        }
        return claims;
    }

    private int answerError(int item) {
        Item i = itemOrNull(item);
        if (i == null) {
            return -1;
        }
        return i.home.state != 2 || i.claim == 0 ? -4 : 0;
    }

    int answer(int item, boolean accepted) {
        if (answerError(item) != 0) {
            return answerError(item);
        }
        Item i = itemOrNull(item);
        int answer = accepted ? 1 : 2;
        if (i.answer == answer) {
            return -5;
        }
        act();
        int old = i.answer;
        i.answer = answer;
        return old;
    }

    private int fault() {
        if (ANSWERS.matcher(text).matches()) {
            return -1;
        }
        for (int length = 1; length <= text.length(); length++) {
            Matcher matcher = ANSWERS.matcher(text.substring(0, length));
            if (!matcher.matches() && !matcher.hitEnd()) {
                return length - 1;
            }
        }
        return text.length();
    }

    int readAnswers() {
        if (fault() >= 0) {
            return -100 - fault();
        }
        Matcher matcher = ANSWER.matcher(text);
        while (matcher.find()) {
            int error = answerError(Integer.parseInt(matcher.group(1)));
            if (error != 0) {
                return error;
            }
        }
        act();
        matcher.reset();
        while (matcher.find()) {
            Item i = itemOrNull(Integer.parseInt(matcher.group(1)));
            i.answer = matcher.group(2).equals("a") ? 1 : 2;
            if (matcher.group(3) != null) {
                i.tenant = Integer.parseInt(matcher.group(3));
            }
        }
        int disputed = 0;
        for (Item i : now.items) {
            disputed += i.answer == 2 ? 1 : 0;
        }
        return disputed;
    }

    int setEvidence(int item, int landlord, int tenant) {
        Item i = itemOrNull(item);
        if (i == null) {
            return -1;
        }
        if (!in(landlord, 0, 10) || !in(tenant, 0, 10)) {
            return -2;
        }
        if (i.home.state != 1 && i.home.state != 2) {
            return -4;
        }
        act();
        i.landlord = landlord;
        i.tenant = tenant;
        return award(i);
    }

    int close(int tenancy) {
        Tenancy t = tenancyOrNull(tenancy);
        if (t == null) {
            return -1;
        }
        if (t.state != 2) {
            return -4;
        }
        act();
        t.result = result(t);
        t.interest = interest(t);
        t.state = 3;
        return t.result[0];
    }

    int type(char character) {
        if (text.length() == 60) {
            return -3;
        }
        text += character;
        return text.length();
    }

    int clearText() {
        int length = text.length();
        text = "";
        return length;
    }

    int undo() {
        if (history.isEmpty()) {
            return -5;
        }
        now = history.removeLast();
        return history.size();
    }

    int keep() {
        kept = now.copy();
        return now.day;
    }

    int restore() {
        if (kept == null) {
            return -5;
        }
        act();
        now = kept.copy();
        return now.day;
    }

    float rate() {
        return now.rate;
    }

    int tenancy(int tenancy, int what) {
        Tenancy t = tenancyOrNull(tenancy);
        if (t == null) {
            return -1;
        }
        if (!in(what, 0, 9)) {
            return -2;
        }
        int items = 0;
        int claims = 0;
        int dues = 0;
        int disputed = 0;
        for (Item i : now.items) {
            if (i.home == t) {
                items++;
                claims += i.claim;
                dues += due(i);
                disputed += i.answer == 2 ? 1 : 0;
            }
        }
        return new int[] {t.deposit, t.begin, t.state, days(t), interest(t), items, t.rent, claims, dues, disputed}[what];
    }

    int item(int item, int what) {
        Item i = itemOrNull(item);
        if (i == null) {
            return -1;
        }
        if (!in(what, 0, 10)) {
            return -2;
        }
        if (i.home.state == 0 && in(what, 4, 6)) {
            return -5;
        }
        int days = days(i.home);
        return new int[] {i.homeNumber, i.value, i.condition, fair(i, days), conditionAtEnd(i),
            Math.max(0, fair(i, days) - conditionAtEnd(i)), due(i), i.claim, i.answer, award(i), i.age + days}[what];
    }

    float rest(int item) {
        Item i = itemOrNull(item);
        return i == null ? Float.NaN : rest(i, days(i.home));
    }

    float weight(int item) {
        Item i = itemOrNull(item);
        return i == null ? Float.NaN : weight(i);
    }

    int reason(int item) {
        Item i = itemOrNull(item);
        if (i == null) {
            return -1;
        }
        if (i.claim == 0) {
            return 0;
        }
        if (i.answer != 2) {
            return 1;
        }
        return i.claim > due(i) ? 3 : 2;
    }

    int outcome(int tenancy, int what) {
        Tenancy t = tenancyOrNull(tenancy);
        if (t == null) {
            return -1;
        }
        if (!in(what, 0, 5)) {
            return -2;
        }
        if (t.state == 0) {
            return -4;
        }
        return t.state == 3 ? t.result[what] : result(t)[what];
    }

    int mostIn(int item, int days) {
        Item i = itemOrNull(item);
        if (i == null) {
            return -1;
        }
        if (!in(days, 0, 9999)) {
            return -2;
        }
        return i.home.state != 0 ? -4 : due(i, now.day - i.home.begin + days, 0);
    }

    int count(int what) {
        if (!in(what, 0, 13)) {
            return -2;
        }
        int[] counts = new int[14];
        counts[0] = now.day;
        counts[1] = now.tenancies.size();
        counts[6] = now.items.size();
        counts[7] = now.fee;
        counts[12] = history.size();
        counts[13] = text.length();
        for (Tenancy t : now.tenancies) {
            counts[2 + t.state]++;
            if (t.state == 3) {
                counts[8] += t.result[0];
                counts[9] += t.result[1];
                counts[10] += t.result[2] + t.result[3];
                counts[11] += t.result[4];
            }
        }
        return counts[what];
    }
}
