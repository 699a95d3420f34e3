/** Promises 4 to 6, 15 and 16: trade, dispute, settle, frozen, ofTrade. */
public final class TradesTest {
    private static void trade() {
        Mutualledger x = Check.circle(3);
        Check.due("trade(0, 1, 1)", x.trade(0, 1, 1), 0);
        Check.due("trade(0, 1, 499)", x.trade(0, 1, 499), 1);
        Check.due("owes(0, 1)", x.owes(0, 1), 500);
        Check.due("owes(1, 0)", x.owes(1, 0), 0);
        // the limit is 550 by the trades so far, not by this one
        Check.thrownWithoutChange("trade(0, 2, 51)", Check.STATE, x, () -> x.trade(0, 2, 51));
        Check.due("trade(0, 2, 50)", x.trade(0, 2, 50), 2);
        // the limit of 1 is 550, its balance 500
        Check.due("trade(1, 2, 1000)", x.trade(1, 2, 1000), 3);
        Check.due("trade(1, 0, 1)", x.trade(1, 0, 1), 4);
    }

    private static void tradeRefused() {
        Mutualledger x = Check.circle(3);
        x.leave(2);
        int[] wrong = {-1, 2, 3, 8, Integer.MIN_VALUE, Integer.MAX_VALUE};
        for (int shop : wrong) {
            Check.thrownWithoutChange("buyer " + shop, Check.INDEX, x, () -> x.trade(shop, 0, 0));
            Check.thrownWithoutChange("seller " + shop, Check.INDEX, x, () -> x.trade(0, shop, 0));
            Check.thrownWithoutChange("both " + shop, Check.INDEX, x, () -> x.trade(shop, shop, 1));
        }
        int[] amounts = {0, -1, 1001, Integer.MIN_VALUE, Integer.MAX_VALUE};
        for (int amount : amounts) {
            Check.thrownWithoutChange("amount " + amount, Check.ARGUMENT, x, () -> x.trade(0, 1, amount));
        }
        Check.thrownWithoutChange("trade with itself", Check.ARGUMENT, x, () -> x.trade(1, 1, 1));
        Check.thrownWithoutChange("trade(0, 1, 1000)", Check.STATE, x, () -> x.trade(0, 1, 1000));
        x.trade(0, 1, 500);
        Check.due("trade(1, 0, 1000)", x.trade(1, 0, 1000), 1);
    }

    private static void hundredTrades() {
        Mutualledger x = Check.circle(2);
        for (int i = 0; i < 100; i++) {
            Check.due("trade " + i, x.trade(i % 2, 1 - i % 2, 2), i);
        }
        Check.thrownWithoutChange("trade 100", Check.STATE, x, () -> x.trade(0, 1, 2));
        Check.thrown("trade 100 of a wrong amount", Check.ARGUMENT, () -> x.trade(0, 1, 0));
        x.dispute(99);
        x.settle(99, true);
        Check.thrown("trade 100 after one is void", Check.STATE, () -> x.trade(0, 1, 2));
        Check.due("ofTrade(99, 3)", x.ofTrade(99, 3), 2);
        Check.thrown("ofTrade(100, 3)", Check.INDEX, () -> x.ofTrade(100, 3));
        Check.thrown("dispute(100)", Check.INDEX, () -> x.dispute(100));
        Check.thrown("settle(100)", Check.INDEX, () -> x.settle(100, true));
    }

    private static void ofTrade() {
        Mutualledger x = Check.circle(4);
        x.night(7);
        x.trade(3, 1, 42);
        x.night(2);
        x.trade(1, 2, 43);
        int[] want = {Mutualledger.STANDS, 3, 1, 42, 7, 0};
        int[] wantNext = {Mutualledger.STANDS, 1, 2, 43, 9, 0};
        for (int what = 0; what < 6; what++) {
            Check.due("ofTrade(0, " + what + ")", x.ofTrade(0, what), want[what]);
            Check.due("ofTrade(1, " + what + ")", x.ofTrade(1, what), wantNext[what]);
        }
        x.dispute(0);
        Check.due("ofTrade(0, 0) disputed", x.ofTrade(0, 0), Mutualledger.DISPUTED);
        Check.due("ofTrade(0, 5) disputed", x.ofTrade(0, 5), 42);
        x.settle(0, true);
        Check.due("ofTrade(0, 0) void", x.ofTrade(0, 0), Mutualledger.VOID);
        Check.due("ofTrade(0, 5) void", x.ofTrade(0, 5), 0);
        Check.due("ofTrade(0, 3) void", x.ofTrade(0, 3), 42);
        int[] trades = {-1, 2, Integer.MIN_VALUE, Integer.MAX_VALUE};
        for (int trade : trades) {
            Check.thrown("ofTrade of " + trade, Check.INDEX, () -> x.ofTrade(trade, 0));
            Check.thrown("ofTrade of " + trade + ", a wrong what", Check.INDEX, () -> x.ofTrade(trade, 6));
        }
        int[] whats = {-1, 6, Integer.MIN_VALUE, Integer.MAX_VALUE};
        for (int what : whats) {
            Check.thrown("ofTrade(0, " + what + ")", Check.ARGUMENT, () -> x.ofTrade(0, what));
        }
    }

    private static void dispute() {
        Mutualledger x = Check.circle(3);
        x.trade(0, 1, 100);
        x.trade(0, 1, 60);
        x.trade(1, 0, 90);
        x.night(1);
        Check.due("owes(0, 1)", x.owes(0, 1), 70);
        Check.due("dispute(1), its amount", x.dispute(1), 60);
        Check.due("frozen(0, 1)", x.frozen(0, 1), 60);
        Check.due("frozen(1, 0)", x.frozen(1, 0), 0);
        Check.due("dispute(0), what there is", x.dispute(0), 10);
        Check.due("frozen(0, 1)", x.frozen(0, 1), 70);
        Check.due("owes(0, 1)", x.owes(0, 1), 70);
        Check.due("dispute(2), nothing there", x.dispute(2), 0);
        Check.due("ofTrade(2, 0)", x.ofTrade(2, 0), Mutualledger.DISPUTED);
        Check.thrownWithoutChange("dispute(0) again", Check.STATE, x, () -> x.dispute(0));
        Check.due("settle(0, false)", x.settle(0, false), 0);
        Check.due("frozen(0, 1)", x.frozen(0, 1), 60);
        Check.due("owes(0, 1)", x.owes(0, 1), 70);
        Check.due("ofTrade(0, 0)", x.ofTrade(0, 0), Mutualledger.STANDS);
        Check.due("ofTrade(0, 5)", x.ofTrade(0, 5), 0);
        Check.due("dispute(0) anew", x.dispute(0), 10);
        Check.due("settle(0, true)", x.settle(0, true), 90);
        Check.due("owes(0, 1)", x.owes(0, 1), 60);
        Check.due("owes(1, 0)", x.owes(1, 0), 90);
        Check.due("frozen(0, 1)", x.frozen(0, 1), 60);
        Check.due("balance(0)", x.balance(0), 30);
        Check.due("balanceAnew(0)", x.balanceAnew(0), 30);
        Check.thrownWithoutChange("dispute(0), void", Check.STATE, x, () -> x.dispute(0));
        Check.thrownWithoutChange("settle(0), void", Check.STATE, x, () -> x.settle(0, false));
        Check.due("settle(1, true)", x.settle(1, true), 0);
        Check.due("owes(0, 1)", x.owes(0, 1), 0);
        Check.thrownWithoutChange("dispute(-1)", Check.INDEX, x, () -> x.dispute(-1));
        Check.thrownWithoutChange("dispute(3)", Check.INDEX, x, () -> x.dispute(3));
        Check.thrownWithoutChange("settle(-1)", Check.INDEX, x, () -> x.settle(-1, true));
        Check.thrownWithoutChange("settle(3)", Check.INDEX, x, () -> x.settle(3, true));
    }

    private static void disputeWithLeavers() {
        Mutualledger x = Check.circle(3);
        x.trade(0, 1, 100);
        x.trade(1, 2, 50);
        x.trade(0, 2, 5);
        x.leave(1);
        Check.thrownWithoutChange("dispute(0), the seller left", Check.STATE, x, () -> x.dispute(0));
        Check.thrownWithoutChange("dispute(1), the buyer left", Check.STATE, x, () -> x.dispute(1));
        Check.thrownWithoutChange("settle(0, true)", Check.STATE, x, () -> x.settle(0, true));
        // 0 owes 50 to 2 for 1, which is not frozen beyond the amount of the trade
        Check.due("owes(0, 2)", x.owes(0, 2), 55);
        Check.due("dispute(2)", x.dispute(2), 5);
    }

    /** What is frozen is not netted, and no fee is paid of it. */
    private static void frozenStays() {
        Mutualledger x = Check.circle(2);
        x.trade(0, 1, 100);
        x.trade(1, 0, 40);
        x.dispute(0);
        x.night(1);
        Check.due("rings()", x.rings(), 0);
        Check.due("owes(0, 1)", x.owes(0, 1), 100);
        x.fee(500);
        x.night(5);
        Check.due("balance(8)", x.balance(8), 0);
        x.settle(0, false);
        x.night(1);
        Check.due("rings()", x.rings(), 1);
        Check.due("balance(8)", x.balance(8), 30);
    }

    private static void frozenAsked() {
        Mutualledger x = Check.circle(2);
        Check.due("frozen(0, 0)", x.frozen(0, 0), 0);
        int[] wrong = {-1, 2, 8, 9, Integer.MIN_VALUE, Integer.MAX_VALUE};
        for (int shop : wrong) {
            Check.thrown("frozen(0, " + shop + ")", Check.INDEX, () -> x.frozen(0, shop));
            Check.thrown("frozen(" + shop + ", 0)", Check.INDEX, () -> x.frozen(shop, 0));
        }
        x.leave(1);
        Check.due("frozen(0, 1)", x.frozen(0, 1), 0);
        Check.due("frozen(1, 0)", x.frozen(1, 0), 0);
    }

    public static void main(String[] args) {
        trade();
        tradeRefused();
        hundredTrades();
        ofTrade();
        dispute();
        disputeWithLeavers();
        frozenStays();
        frozenAsked();
        Check.end("TradesTest");
    }
}
