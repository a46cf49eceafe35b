/** All that is told of a small book, as one row of numbers. */
final class Facts {
    private static final int TENANCIES = 3;
    private static final int ITEMS = 3;
    private static final int COUNTS = 14;

    private int size = 0;
    private final int[] facts = new int[TENANCIES * 16 + ITEMS * 15 + COUNTS + 1];

    private Facts() {
    }

    /** With the counts of the states in the history and of the signs in the text. */
    static int[] of(TenancyDeposits book) {
        return new Facts().tell(book, COUNTS);
    }

    /** What belongs to the state alone. */
    static int[] ofState(TenancyDeposits book) {
        return new Facts().tell(book, COUNTS - 2);
    }

    private void add(int fact) {
        facts[size++] = fact;
    }

    private int[] tell(TenancyDeposits book, int counts) {
        for (int n = 0; n < TENANCIES; n++) {
            for (int what = 0; what < 10; what++) {
                add(book.tenancy(n, what));
            }
            for (int what = 0; what < 6; what++) {
                add(book.outcome(n, what));
            }
        }
        for (int n = 0; n < ITEMS; n++) {
            for (int what = 0; what < 11; what++) {
                add(book.item(n, what));
            }
            add(Float.floatToIntBits(book.rest(n)));
            add(Float.floatToIntBits(book.weight(n)));
            add(book.reason(n));
            add(book.mostIn(n, 7));
        }
        for (int what = 0; what < counts; what++) {
            add(book.count(what));
        }
        add(Float.floatToIntBits(book.rate()));
        return facts;
    }

    static void theSame(String name, int[] got, int[] want) {
        for (int n = 0; n < want.length; n++) {
            Check.due(name + ", fact " + n, got[n], want[n]);
        }
    }
}
