/** Promises 1 to 4 and 21: a new object, the rate, the fee, the days. */
public final class SettingsTest {
    public static void main(String[] args) {
        newObject();
        ratesThatAreTaken();
        ratesThatAreNot();
        everyRateIsTakenToTheBit();
        rateChangesInterest();
        interestIsCutFromLeftToRight();
        fee();
        days();
        lastDay();
        Check.end("SettingsTest");
    }

    private static void newObject() {
        TenancyDeposits book = new TenancyDeposits();
        int[] counts = {0, 0, 0, 0, 0, 0, 0, 5000, 0, 0, 0, 0, 0, 0};
        for (int what = 0; what < counts.length; what++) {
            Check.due("new: count(" + what + ")", book.count(what), counts[what]);
        }
        Check.dueFloat("new: rate()", book.rate(), 0.02f);
        Check.due("new: tenancy(0, 0)", book.tenancy(0, 0), TenancyDeposits.UNKNOWN);
        Check.due("new: item(0, 0)", book.item(0, 0), TenancyDeposits.UNKNOWN);
        Check.due("new: undo()", book.undo(), TenancyDeposits.NONE);
        Check.due("new: restore()", book.restore(), TenancyDeposits.NONE);
        Check.due("new: clearText()", book.clearText(), 0);
        Check.due("new: begin(1000)", book.begin(1000), 0);
        Check.due("another object is not touched", new TenancyDeposits().count(1), 0);
    }

    private static void ratesThatAreTaken() {
        float[] rates = {0.0f, 0.2f, 0.1f, Float.MIN_VALUE, Float.MIN_NORMAL, 0.02f, Math.nextDown(0.2f)};
        TenancyDeposits book = new TenancyDeposits();
        for (float rate : rates) {
            int bits = Float.floatToRawIntBits(rate);
            Check.due("setRate of " + rate, book.setRate(bits), 1);
            Check.dueFloat("rate()", book.rate(), rate);
            Check.due("setRate again", book.setRate(bits), TenancyDeposits.NONE);
        }
        Check.due("at first", new TenancyDeposits().setRate(Float.floatToRawIntBits(0.02f)), TenancyDeposits.NONE);
    }

    private static void ratesThatAreNot() {
        float[] rates = {-0.0f, Math.nextUp(0.2f), -Float.MIN_VALUE, -0.1f, 0.3f, 1.0f, -1.0f,
            Float.POSITIVE_INFINITY, Float.NEGATIVE_INFINITY, Float.NaN, Float.MAX_VALUE};
        TenancyDeposits book = new TenancyDeposits();
        for (float rate : rates) {
            wrongRate(book, Float.floatToRawIntBits(rate));
        }
        int[] noNumbers = {0x7F800001, 0x7FFFFFFF, 0xFF800001, 0xFFFFFFFF, Integer.MAX_VALUE, Integer.MIN_VALUE};
        for (int bits : noNumbers) {
            wrongRate(book, bits);
        }
        Check.due("no state was recorded", book.count(12), 0);
    }

    private static void wrongRate(TenancyDeposits book, int bits) {
        Check.due("setRate(" + bits + ")", book.setRate(bits), TenancyDeposits.BAD_VALUE);
        Check.dueFloat("rate() behind it", book.rate(), 0.02f);
    }

    private static void everyRateIsTakenToTheBit() {
        TenancyDeposits book = new TenancyDeposits();
        int highest = Float.floatToRawIntBits(0.2f);
        for (int bits = 1; bits <= highest; bits += 1000003) {
            book.setRate(bits);
            Check.dueFloat("rate of bits " + bits, book.rate(), Float.intBitsToFloat(bits));
        }
        for (int exponent = 0; exponent < 125; exponent++) {
            for (int signs = 0; signs < 3; signs++) {
                int bits = (exponent << 23) + (signs == 2 ? 0x7FFFFF : signs);
                if (bits <= highest) {
                    book.setRate(bits);
                    Check.dueFloat("rate of bits " + bits, book.rate(), Float.intBitsToFloat(bits));
                }
            }
        }
    }

    private static void rateChangesInterest() {
        TenancyDeposits book = new TenancyDeposits();
        book.begin(100000);
        book.pass(365);
        Check.due("interest", book.tenancy(0, 4), 2000);
        book.setRate(Float.floatToRawIntBits(0.2f));
        Check.due("interest at 0.2f", book.tenancy(0, 4), 20000);
        book.setRate(0);
        Check.due("interest at 0.0f", book.tenancy(0, 4), 0);
        Check.due("undo()", book.undo(), 3);
        Check.dueFloat("rate() then", book.rate(), 0.2f);
    }

    private static void interestIsCutFromLeftToRight() {
        int orders = 0;
        int doubles = 0;
        TenancyDeposits book = new TenancyDeposits();
        book.begin(999983);
        book.setRate(Float.floatToRawIntBits(0.1875123f));
        for (int days = 251; days <= 99999; days += 251) {
            book.pass(251);
            int want = (int) (999983f * 0.1875123f * (float) days / 365.0f);
            Check.due("interest of " + days, book.tenancy(0, 4), want);
            orders += (int) (999983f * 0.1875123f * ((float) days / 365.0f)) == want ? 0 : 1;
            doubles += (int) (999983.0 * 0.1875123f * days / 365.0) == want ? 0 : 1;
        }
        Check.dueTrue("some days tell the orders apart", orders > 0);
        Check.dueTrue("some days tell floats from doubles", doubles > 0);
    }

    private static void fee() {
        TenancyDeposits book = new TenancyDeposits();
        Check.due("setFee(5000)", book.setFee(5000), TenancyDeposits.NONE);
        Check.due("setFee(-1)", book.setFee(-1), TenancyDeposits.BAD_VALUE);
        Check.due("setFee(50001)", book.setFee(50001), TenancyDeposits.BAD_VALUE);
        Check.due("setFee(MIN)", book.setFee(Integer.MIN_VALUE), TenancyDeposits.BAD_VALUE);
        Check.due("states", book.count(12), 0);
        Check.due("setFee(50000)", book.setFee(50000), 5000);
        Check.due("setFee(0)", book.setFee(0), 50000);
        Check.due("setFee(0) again", book.setFee(0), TenancyDeposits.NONE);
        Check.due("setFee(1)", book.setFee(1), 0);
        Check.due("count(7)", book.count(7), 1);
        Check.due("states", book.count(12), 3);
        book.undo();
        Check.due("count(7) after undo", book.count(7), 0);
    }

    private static void days() {
        TenancyDeposits book = new TenancyDeposits();
        Check.due("pass(0)", book.pass(0), TenancyDeposits.BAD_VALUE);
        Check.due("pass(-1)", book.pass(-1), TenancyDeposits.BAD_VALUE);
        Check.due("pass(1001)", book.pass(1001), TenancyDeposits.BAD_VALUE);
        Check.due("pass(MAX)", book.pass(Integer.MAX_VALUE), TenancyDeposits.BAD_VALUE);
        Check.due("states", book.count(12), 0);
        Check.due("pass(1)", book.pass(1), 1);
        Check.due("pass(1000)", book.pass(1000), 1001);
        Check.due("count(0)", book.count(0), 1001);
        book.undo();
        Check.due("count(0) after undo", book.count(0), 1);
    }

    private static void lastDay() {
        TenancyDeposits book = new TenancyDeposits();
        book.begin(1000000);
        for (int n = 0; n < 99; n++) {
            book.pass(1000);
        }
        Check.due("pass(1000) too far", book.pass(1000), TenancyDeposits.FULL);
        Check.due("pass(1001) is told first", book.pass(1001), TenancyDeposits.BAD_VALUE);
        Check.due("pass(999)", book.pass(999), 99999);
        Check.due("pass(1)", book.pass(1), TenancyDeposits.FULL);
        Check.due("count(0)", book.count(0), 99999);
        book.setRate(Float.floatToRawIntBits(0.2f));
        Check.due("the most interest", book.tenancy(0, 4), (int) (1000000f * 0.2f * 99999f / 365.0f));
        book.end(0);
        book.put(0);
        Check.due("close(0)", book.close(0), 1000000 + (int) (1000000f * 0.2f * 99999f / 365.0f));
    }
}
