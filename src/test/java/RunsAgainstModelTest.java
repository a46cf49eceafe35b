import java.util.Random;

/** Runs of calls with all kinds of arguments, each answered as the model answers it; nothing is ever thrown. */
public final class RunsAgainstModelTest {
    private static final int RUNS = 600;
    private static final int CALLS = 512;
    private static final int[] ODD = {Integer.MIN_VALUE, Integer.MAX_VALUE, -1, 0, 1, 6, 24, 60, 100, 101,
        Integer.MIN_VALUE + 1, 1 << 30, -(1 << 24)};
    private static final char[] SIGNS = {'0', '1', '2', '3', '4', '5', '6', '7', '8', '9', 'a', 'd', ',', 'x'};

    private final Random random;
    private final TenancyDeposits book = new TenancyDeposits();
    private final Model model = new Model();
    private final int run;
    private int call = 0;

    private RunsAgainstModelTest(int run) {
        this.run = run;
        this.random = new Random(4711L + run);
    }

    public static void main(String[] args) {
        int[] results = new int[4];
        for (int run = 0; run < RUNS && Check.wrongSoFar() < 20; run++) {
            RunsAgainstModelTest one = new RunsAgainstModelTest(run);
            one.go();
            for (int n = 0; n < 4; n++) {
                results[n] += one.book.count(8 + n) > 0 ? 1 : 0;
            }
        }
        Check.dueTrue("the runs close, dispute and leave debts", results[0] > RUNS / 2 && results[1] > RUNS / 2
            && results[2] > RUNS / 3 && results[3] > RUNS / 3);
        Check.end("RunsAgainstModelTest");
    }

    private void go() {
        while (call < CALLS) {
            call++;
            act();
            ask();
            if (call % 16 == 0) {
                askAll();
            }
        }
    }

    private String name(String text) {
        return "run " + run + ", call " + call + ": " + text;
    }

    private int upTo(int most) {
        return random.nextInt(most + 1);
    }

    /** A number between the limits, often at one of them, and now and then beyond. */
    private int number(int low, int high) {
        switch (random.nextInt(12)) {
            case 0:
                return low;
            case 1:
                return high;
            case 2:
                return random.nextInt(4) > 0 ? low + upTo(high - low) : low - 1;
            case 3:
                return random.nextInt(4) > 0 ? low + upTo(high - low) : high + 1;
            case 4:
                return random.nextInt(6) > 0 ? low + upTo(high - low) : ODD[random.nextInt(ODD.length)];
            case 5:
                return low + (high - low) / 2;
            default:
                return low + upTo(high - low);
        }
    }

    private int anyTenancy() {
        return number(0, Math.max(0, model.count(1) - 1));
    }

    private int anyItem() {
        return number(0, Math.max(0, model.count(6) - 1));
    }

    /** Most often a tenancy in this state, if one is found soon. */
    private int tenancyIn(int state) {
        int tenancy = anyTenancy();
        for (int tries = 0; tries < 6 && model.tenancy(tenancy, 2) != state; tries++) {
            tenancy = anyTenancy();
        }
        return tenancy;
    }

    /** Most often an item of a tenancy in this state, if one is found soon. */
    private int itemIn(int state) {
        int item = anyItem();
        for (int tries = 0; tries < 6 && model.tenancy(model.item(item, 0), 2) != state; tries++) {
            item = anyItem();
        }
        return item;
    }

    private void same(String text, int got, int want) {
        Check.due(name(text), got, want);
    }

    private void same(String text, float got, float want) {
        Check.dueFloat(name(text), got, want);
    }

    private void act() {
        int kind = random.nextInt(100);
        if (kind < 4) {
            settings();
        } else if (kind < 12) {
            int days = random.nextInt(3) == 0 ? number(1, 1000) : number(1, 60);
            same("pass(" + days + ")", book.pass(days), model.pass(days));
        } else if (kind < 30) {
            inventory();
        } else if (kind < 62) {
            claims();
        } else if (kind < 74) {
            answers();
        } else if (kind < 94) {
            typeAndRead();
        } else {
            history();
        }
    }

    private void settings() {
        if (random.nextBoolean()) {
            int cents = number(0, 50000);
            same("setFee(" + cents + ")", book.setFee(cents), model.setFee(cents));
            return;
        }
        int bits = random.nextInt(5) == 0 ? random.nextInt() : number(0, Float.floatToRawIntBits(0.2f));
        if (random.nextInt(3) == 0) {
            bits = Float.floatToRawIntBits(random.nextFloat() * 0.25f - 0.02f);
        }
        same("setRate(" + bits + ")", book.setRate(bits), model.setRate(bits));
    }

    private void inventory() {
        int tenancies = model.count(1);
        if (random.nextInt(4) == 0 || tenancies == 0) {
            int deposit = random.nextBoolean() ? number(1000, 1000000) : number(1000, 60000);
            same("begin(" + deposit + ")", book.begin(deposit), model.begin(deposit));
            return;
        }
        int tenancy = random.nextInt(3) > 0 ? tenancies - 1 : anyTenancy();
        int value = random.nextBoolean() ? number(100, 500000) : number(100, 20000);
        int life = random.nextBoolean() ? number(30, 9999) : number(200, 4000);
        int age = random.nextBoolean() ? number(0, 9999) : number(0, 500);
        int condition = number(0, 100);
        same("addItem", book.addItem(tenancy, value, life, age, condition),
            model.addItem(tenancy, value, life, age, condition));
    }

    private void claims() {
        int item = itemIn(1);
        int kind = random.nextInt(24);
        if (kind < 2) {
            int tenancy = tenancyIn(0);
            same("end(" + tenancy + ")", book.end(tenancy), model.end(tenancy));
        } else if (kind < 3) {
            int tenancy = tenancyIn(1);
            same("put(" + tenancy + ")", book.put(tenancy), model.put(tenancy));
        } else if (kind < 4) {
            int tenancy = tenancyIn(2);
            same("close(" + tenancy + ")", book.close(tenancy), model.close(tenancy));
        } else if (kind < 7) {
            int tenancy = tenancyIn(1);
            int rent = random.nextBoolean() ? number(0, 1000000) : number(0, 30000);
            same("claimRent", book.claimRent(tenancy, rent), model.claimRent(tenancy, rent));
        } else if (kind < 14) {
            int condition = number(0, 100);
            same("inspect", book.inspect(item, condition), model.inspect(item, condition));
        } else {
            int cents = number(0, Math.max(100, model.item(item, 1)));
            same("claim(" + item + ", " + cents + ")", book.claim(item, cents), model.claim(item, cents));
        }
    }

    private void answers() {
        int item = itemIn(2);
        if (random.nextBoolean()) {
            boolean accepted = random.nextInt(3) == 0;
            same("answer(" + item + ")", book.answer(item, accepted), model.answer(item, accepted));
            return;
        }
        int landlord = number(0, 10);
        int tenant = number(0, 10);
        same("setEvidence(" + item + ")", book.setEvidence(item, landlord, tenant),
            model.setEvidence(item, landlord, tenant));
    }

    private void typeAndRead() {
        if (random.nextInt(3) == 0) {
            same("clearText", book.clearText(), model.clearText());
        }
        if (random.nextInt(3) > 0) {
            int answers = 1 + random.nextInt(4);
            for (int n = 0; n < answers; n++) {
                typeText(oneAnswer());
            }
        } else {
            int signs = random.nextInt(5);
            for (int n = 0; n < signs; n++) {
                typeText(String.valueOf(random.nextInt(20) == 0 ? (char) random.nextInt(65536)
                    : SIGNS[random.nextInt(SIGNS.length)]));
            }
        }
        same("readAnswers", book.readAnswers(), model.readAnswers());
    }

    private String oneAnswer() {
        StringBuilder text = new StringBuilder();
        if (model.count(13) > 0) {
            text.append(',');
        }
        int item = anyItem();
        for (int tries = 0; tries < 8 && (model.item(item, 7) <= 0
                || model.tenancy(model.item(item, 0), 2) != 2); tries++) {
            item = anyItem();
        }
        text.append(Math.max(0, Math.min(item, 99)));
        if (random.nextInt(3) == 0) {
            text.append('a');
        } else {
            text.append('d');
            if (random.nextBoolean()) {
                text.append(random.nextInt(random.nextInt(6) == 0 ? 100 : 11));
            }
        }
        return text.toString();
    }

    private void typeText(String text) {
        for (int n = 0; n < text.length(); n++) {
            same("type", book.type(text.charAt(n)), model.type(text.charAt(n)));
        }
    }

    private void history() {
        switch (random.nextInt(5)) {
            case 0:
                same("keep", book.keep(), model.keep());
                break;
            case 1:
                if (random.nextInt(5) == 0) {
                    same("restore", book.restore(), model.restore());
                }
                break;
            default:
                same("undo", book.undo(), model.undo());
        }
    }

    private void ask() {
        int item = anyItem();
        int tenancy = anyTenancy();
        int what = number(0, 10);
        int days = number(0, 9999);
        same("tenancy", book.tenancy(tenancy, what), model.tenancy(tenancy, what));
        same("item", book.item(item, what), model.item(item, what));
        same("outcome", book.outcome(tenancy, what / 2), model.outcome(tenancy, what / 2));
        same("mostIn", book.mostIn(item, days), model.mostIn(item, days));
        same("reason", book.reason(item), model.reason(item));
        same("count", book.count(what), model.count(what));
    }

    private void askAll() {
        same("rate", book.rate(), model.rate());
        for (int what = -1; what <= 14; what++) {
            same("count(" + what + ")", book.count(what), model.count(what));
        }
        for (int n = -1; n <= 6; n++) {
            for (int what = -1; what <= 10; what++) {
                same("tenancy(" + n + ", " + what + ")", book.tenancy(n, what), model.tenancy(n, what));
                same("outcome(" + n + ", " + what + ")", book.outcome(n, what), model.outcome(n, what));
            }
        }
        for (int n = -1; n <= 24; n++) {
            for (int what = -1; what <= 11; what++) {
                same("item(" + n + ", " + what + ")", book.item(n, what), model.item(n, what));
            }
            same("rest(" + n + ")", book.rest(n), model.rest(n));
            same("weight(" + n + ")", book.weight(n), model.weight(n));
            same("reason(" + n + ")", book.reason(n), model.reason(n));
            same("mostIn(" + n + ", 50)", book.mostIn(n, 50), model.mostIn(n, 50));
        }
    }
}
