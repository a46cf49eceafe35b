/** Books that the tests of boundaries start from. */
final class Books {
    private Books() {
    }

    static TenancyDeposits withoutInterest() {
        TenancyDeposits book = new TenancyDeposits();
        book.setRate(0);
        return book;
    }

    /**
     * A book without interest whose tenancy 0, with a deposit of 50000 and 100 days, is in this state.
     * Its items 0 and 1 have a value of 10000 and half of their life behind them. From the end on item 0 has
     * a due of 2500 and a claim of 4000, item 1 neither.
     */
    static TenancyDeposits inState(int state) {
        TenancyDeposits book = withoutInterest();
        book.begin(50000);
        book.addItem(0, 10000, 200, 0, 100);
        book.addItem(0, 10000, 200, 0, 100);
        book.pass(100);
        if (state >= 1) {
            book.end(0);
            book.inspect(0, 0);
            book.claim(0, 4000);
        }
        if (state >= 2) {
            book.put(0);
        }
        if (state >= 3) {
            book.close(0);
        }
        return book;
    }

    /** A book without interest with one item, as new when its tenancy of this many days began, which has ended. */
    static TenancyDeposits endedAfter(int days, int value, int life, int age) {
        TenancyDeposits book = withoutInterest();
        book.begin(50000);
        book.addItem(0, value, life, age, 100);
        pass(book, days);
        book.end(0);
        return book;
    }

    /** A put tenancy with this deposit, whose items have these claims, are due 2500 each and are all disputed. */
    static TenancyDeposits disputed(int deposit, int... claims) {
        TenancyDeposits book = withoutInterest();
        book.begin(deposit);
        for (int n = 0; n < claims.length; n++) {
            book.addItem(0, 10000, 200, 0, 100);
        }
        book.pass(100);
        book.end(0);
        for (int n = 0; n < claims.length; n++) {
            book.inspect(n, 0);
            book.claim(n, claims[n]);
        }
        book.put(0);
        for (int n = 0; n < claims.length; n++) {
            book.answer(n, false);
        }
        return book;
    }

    /** Passes as many days as are told, also more than one call can. */
    static void pass(TenancyDeposits book, int days) {
        int left = days;
        while (left > 0) {
            int now = Math.min(left, 1000);
            book.pass(now);
            left -= now;
        }
    }

    static TenancyDeposits onLastDay() {
        TenancyDeposits book = new TenancyDeposits();
        pass(book, 99999);
        return book;
    }
}
