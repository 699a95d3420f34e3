/** Promises 9 to 12, 14, 19: fee, night, balance, balanceAnew, owes, isIdle. */
public final class NightsTest {
    private static void fee() {
        Mutualledger x = Check.circle(1);
        Check.due("fee(0)", x.fee(0), 10);
        Check.due("fee(500)", x.fee(500), 0);
        int[] wrong = {-1, 501, Integer.MIN_VALUE, Integer.MAX_VALUE};
        for (int thousandths : wrong) {
            Check.thrown("fee(" + thousandths + ")", Check.ARGUMENT, () -> x.fee(thousandths));
        }
        Check.due("fee(10)", x.fee(10), 500);
        Check.due("fee(10)", x.fee(10), 10);
    }

    private static void night() {
        Mutualledger x = Check.circle(1);
        Check.due("night(1)", x.night(1), 1);
        Check.due("night(20)", x.night(20), 21);
        int[] wrong = {0, -1, 21, Integer.MIN_VALUE, Integer.MAX_VALUE};
        for (int nights : wrong) {
            Check.thrown("night(" + nights + ")", Check.ARGUMENT, () -> x.night(nights));
        }
        Check.due("night(2)", x.night(2), 23);
    }

    private static void isIdle() {
        Mutualledger x = Check.circle(4);
        Check.due("isIdle(0) with a balance of 0", x.isIdle(0), false);
        x.trade(0, 1, 10);
        for (int day = 0; day < 5; day++) {
            Check.due("isIdle(1) on day " + day, x.isIdle(1), false);
            Check.due("isIdle(0) on day " + day, x.isIdle(0), false);
            x.night(1);
        }
        Check.due("isIdle(1) on day 5", x.isIdle(1), true);
        Check.due("isIdle(0) with a balance below 0", x.isIdle(0), false);
        x.trade(1, 2, 1);
        Check.due("isIdle(1), that bought", x.isIdle(1), false);
        x.dispute(1);
        x.settle(1, true);
        Check.due("isIdle(1), a void trade counts", x.isIdle(1), false);
        x.night(4);
        Check.due("isIdle(1), 4 days on", x.isIdle(1), false);
        x.night(1);
        Check.due("isIdle(1), 5 days on", x.isIdle(1), true);
        x.trade(3, 1, 1);
        Check.due("isIdle(1), that sold", x.isIdle(1), false);
        x.leave(3);
        int[] wrong = {-1, 3, 4, 8, Integer.MIN_VALUE, Integer.MAX_VALUE};
        for (int shop : wrong) {
            Check.thrown("isIdle(" + shop + ")", Check.INDEX, () -> x.isIdle(shop) ? 1 : 0);
        }
    }

    /** The fee is rounded down, and is paid in the night of the fifth day, not ahead of it. */
    private static void feePaid() {
        Mutualledger x = Check.circle(2);
        x.trade(0, 1, 199);
        x.night(5);
        Check.due("balance(8) on day 5", x.balance(8), 0);
        x.night(1);
        Check.due("balance(8) on day 6", x.balance(8), 1);
        Check.due("owes(0, 8)", x.owes(0, 8), 1);
        Check.due("owes(0, 1)", x.owes(0, 1), 198);
        Check.due("balance(1)", x.balance(1), 198);
        Check.due("balance(0)", x.balance(0), -199);
        Check.due("balanceAnew(0)", x.balanceAnew(0), -199);
        Check.due("balanceAnew(1)", x.balanceAnew(1), 198);
        Check.due("balanceAnew(8)", x.balanceAnew(8), 1);
        x.fee(0);
        x.night(1);
        Check.due("balance(8) with no fee", x.balance(8), 1);
        x.fee(500);
        x.night(2);
        // 198, 99, 50
        Check.due("balance(1)", x.balance(1), 50);
        Check.due("owes(0, 8)", x.owes(0, 8), 149);
    }

    /** First the one who owes the most, of several the lowest, then the next one. */
    private static void feeOfTheGreatest() {
        Mutualledger x = Check.circle(5);
        x.trade(0, 4, 30);
        x.trade(1, 4, 50);
        x.trade(2, 4, 50);
        x.trade(3, 4, 40);
        x.night(5);
        x.fee(400);
        x.night(1);
        // 68 of 170: 1 pays 50, 2 pays 18
        Check.due("owes(1, 8)", x.owes(1, 8), 50);
        Check.due("owes(2, 8)", x.owes(2, 8), 18);
        Check.due("owes(3, 8)", x.owes(3, 8), 0);
        Check.due("owes(2, 4)", x.owes(2, 4), 32);
        x.night(1);
        // 40 of 102: 3 pays 40
        Check.due("owes(3, 8)", x.owes(3, 8), 40);
        Check.due("owes(2, 8)", x.owes(2, 8), 18);
        x.night(1);
        // 24 of 62: 2 pays 24 of the 32
        Check.due("owes(2, 8)", x.owes(2, 8), 42);
        Check.due("owes(0, 8)", x.owes(0, 8), 0);
        x.night(1);
        // 15 of 38: 0 pays 15 of the 30
        Check.due("owes(0, 8)", x.owes(0, 8), 15);
        Check.due("balance(8)", x.balance(8), 147);
        Check.due("balanceAnew(8)", x.balanceAnew(8), 147);
    }

    /** Several idle shops pay, the first and the last one too, and what each owes stays as much. */
    private static void feeOfAll() {
        Mutualledger x = Check.circle(8);
        x.trade(3, 0, 100);
        x.trade(3, 7, 200);
        x.trade(7, 0, 50);
        x.night(5);
        x.fee(100);
        x.night(1);
        Check.due("owes(3, 8)", x.owes(3, 8), 30);
        Check.due("owes(3, 0)", x.owes(3, 0), 85);
        Check.due("owes(3, 7)", x.owes(3, 7), 185);
        Check.due("owes(7, 8)", x.owes(7, 8), 0);
        Check.due("balance(0)", x.balance(0), 135);
        Check.due("balance(7)", x.balance(7), 135);
        Check.due("balance(8)", x.balance(8), 30);
    }

    /** Of what is frozen nothing is paid, and it does not count for who owes the most. */
    private static void feeOfTheOpen() {
        Mutualledger x = Check.circle(3);
        x.trade(0, 2, 100);
        x.trade(1, 2, 20);
        x.trade(0, 2, 12);
        x.dispute(0);
        x.night(5);
        x.fee(500);
        x.night(1);
        // 66 is due, but 32 alone is open
        Check.due("owes(1, 8)", x.owes(1, 8), 20);
        Check.due("owes(0, 8)", x.owes(0, 8), 12);
        Check.due("owes(0, 2)", x.owes(0, 2), 100);
        Check.due("frozen(0, 2)", x.frozen(0, 2), 100);
        Check.due("balance(2)", x.balance(2), 100);
        x.night(1);
        Check.due("balance(2)", x.balance(2), 100);
        Mutualledger y = Check.circle(3);
        y.trade(0, 2, 100);
        y.trade(1, 2, 20);
        y.trade(0, 2, 12);
        y.dispute(0);
        y.night(5);
        y.fee(100);
        y.night(1);
        Check.due("owes(1, 8), the most that is open", y.owes(1, 8), 13);
        Check.due("owes(0, 8)", y.owes(0, 8), 0);
    }

    /** Rings are netted first, then the fee is paid of what is left. */
    private static void ringsAheadOfFees() {
        Mutualledger x = Check.circle(3);
        x.trade(0, 1, 100);
        x.trade(1, 0, 90);
        x.trade(2, 1, 50);
        x.dispute(0);
        x.dispute(1);
        x.night(5);
        x.settle(0, false);
        x.settle(1, false);
        x.fee(500);
        x.night(1);
        // 0 and 1 net 90; the balance of 1 is 60, half of it is paid by 2, who owes the most then
        Check.due("rings()", x.rings(), 1);
        Check.due("owes(0, 1)", x.owes(0, 1), 10);
        Check.due("owes(2, 8)", x.owes(2, 8), 30);
        Check.due("owes(2, 1)", x.owes(2, 1), 20);
    }

    private static void asked() {
        Mutualledger x = Check.circle(3);
        x.trade(0, 1, 10);
        x.leave(2);
        Check.due("balance(2)", x.balance(2), 0);
        Check.due("balanceAnew(2)", x.balanceAnew(2), 0);
        Check.due("owes(0, 0)", x.owes(0, 0), 0);
        Check.due("owes(0, 1)", x.owes(0, 1), 10);
        Check.due("owes(0, 2)", x.owes(0, 2), 0);
        Check.due("owes(2, 0)", x.owes(2, 0), 0);
        Check.due("owes(0, 8)", x.owes(0, 8), 0);
        Check.thrown("owes(8, 0)", Check.INDEX, () -> x.owes(8, 0));
        Check.thrown("owes(8, 8)", Check.INDEX, () -> x.owes(8, 8));
        int[] wrong = {-1, 3, 7, 9, Integer.MIN_VALUE, Integer.MAX_VALUE};
        for (int shop : wrong) {
            Check.thrown("owes(0, " + shop + ")", Check.INDEX, () -> x.owes(0, shop));
            Check.thrown("owes(" + shop + ", 0)", Check.INDEX, () -> x.owes(shop, 0));
            Check.thrown("balance(" + shop + ")", Check.INDEX, () -> x.balance(shop));
            Check.thrown("balanceAnew(" + shop + ")", Check.INDEX, () -> x.balanceAnew(shop));
        }
    }

    public static void main(String[] args) {
        fee();
        night();
        isIdle();
        feePaid();
        feeOfTheGreatest();
        feeOfAll();
        feeOfTheOpen();
        ringsAheadOfFees();
        asked();
        Check.end("NightsTest");
    }
}
