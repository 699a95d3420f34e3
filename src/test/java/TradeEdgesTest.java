/**
 * Each sentence of "Terms", "Disputes" and promises 4 to 6 and 14 to 16 that names a boundary case
 * of trades: trade, dispute, settle, owes, frozen, ofTrade. One test a sentence; the sentence stands
 * ahead of it.
 */
public final class TradeEdgesTest {
    private static void owes(Mutualledger x, int shop, int other, int want) {
        Check.due("owes(" + shop + ", " + other + ")", x.owes(shop, other), want);
    }

    private static void frozen(Mutualledger x, int shop, int other, int want) {
        Check.due("frozen(" + shop + ", " + other + ")", x.frozen(shop, other), want);
    }

    private static void ofTrade(Mutualledger x, int trade, int is, int frozenPart) {
        Check.due("ofTrade(" + trade + ", 0)", x.ofTrade(trade, 0), is);
        Check.due("ofTrade(" + trade + ", 5)", x.ofTrade(trade, 5), frozenPart);
    }

    private static void balances(Mutualledger x, int shop, int want) {
        Check.due("balance(" + shop + ")", x.balance(shop), want);
        Check.due("balanceAnew(" + shop + ")", x.balanceAnew(shop), want);
    }

    // ---- promise 4

    /** 0 can bear 1500. */
    private static Mutualledger rich() {
        Mutualledger x = Check.circle(4);
        x.guarantee(2, 0, 500);
        x.guarantee(3, 0, 500);
        return x;
    }

    // "amount: 1 to 1000"
    private static void amount() {
        Mutualledger x = rich();
        Check.due("trade(0, 1, 1)", x.trade(0, 1, 1), 0);
        Check.due("trade(0, 1, 1000)", x.trade(0, 1, 1000), 1);
        owes(x, 0, 1, 1001);
        int[] wrong = {
            Integer.MIN_VALUE, Integer.MIN_VALUE + 1, -65535, -1000, -1, 0, 1001, 65537, Integer.MAX_VALUE - 1,
            Integer.MAX_VALUE,
        };
        for (int amount : wrong) {
            Refused.due("trade(0, 1, " + amount + ")", Check.ARGUMENT, TradeEdgesTest::rich, y -> y.trade(0, 1, amount));
        }
    }

    // "seller: the number of another shop", "or both are the same": the first and the last shop
    private static void another() {
        for (int shop = 0; shop < 8; shop += 7) {
            int same = shop;
            Refused.due("trade of " + shop + " with itself", Check.ARGUMENT, () -> Check.circle(8),
                x -> x.trade(same, same, 1));
        }
        Mutualledger x = Check.circle(8);
        Check.due("trade(0, 7, 1)", x.trade(0, 7, 1), 0);
        Check.due("trade(7, 0, 1)", x.trade(7, 0, 1), 1);
    }

    // "Returns the number of the trade": "numbered from 0"; a refused trade takes no number
    private static void numberOfTheTrade() {
        Mutualledger x = Check.circle(2);
        Check.thrown("trade(0, 1, 0)", Check.ARGUMENT, () -> x.trade(0, 1, 0));
        Check.due("trade(0, 1, 5)", x.trade(0, 1, 5), 0);
        Check.thrown("trade(0, 1, 501)", Check.STATE, () -> x.trade(0, 1, 501));
        Check.thrown("trade(0, 2, 1)", Check.INDEX, () -> x.trade(0, 2, 1));
        Check.due("trade(0, 1, 5)", x.trade(0, 1, 5), 1);
    }

    // "at most 100": the hundredth is taken, the next one is not
    private static void hundredTrades() {
        Mutualledger x = Check.circle(2);
        for (int i = 0; i < 100; i++) {
            Check.due("trade", x.trade(i % 2, 1 - i % 2, 1 + i), i);
        }
        Check.thrown("trade of the hundred and first", Check.STATE, () -> x.trade(0, 1, 1));
        Check.due("amount of the first", x.ofTrade(0, 3), 1);
        Check.due("amount of the last", x.ofTrade(99, 3), 100);
        Check.due("buyer of the last", x.ofTrade(99, 1), 1);
        Check.due("dispute(99)", x.dispute(99), 100);
        Check.due("settle(99, true)", x.settle(99, true), 0);
        ofTrade(x, 99, Mutualledger.VOID, 0);
        Refused.due("the hundred and first", Check.STATE, () -> hundred(false), y -> y.trade(0, 1, 1));
    }

    private static Mutualledger hundred(boolean allVoid) {
        Mutualledger x = Check.circle(3);
        for (int i = 0; i < 100; i++) {
            x.trade(i % 2, 1 - i % 2, 1);
        }
        for (int i = 0; allVoid && i < 100; i++) {
            x.dispute(i);
            x.settle(i, true);
        }
        return x;
    }

    // "at most 100": neither VOID trades, nor nights, nor leaving make room
    private static void hundredTradesEver() {
        Mutualledger x = hundred(true);
        x.night(20);
        x.leave(1);
        x.join();
        Check.thrown("trade, all are void", Check.STATE, () -> x.trade(0, 2, 1));
        Check.thrown("trade of the new shop", Check.STATE, () -> x.trade(3, 0, 1));
        Check.due("amounts of void trades do not count", x.limit(0), 500);
    }

    // "the balance of the buyer and its limit, less the amount, are below 0": 0 is not, -1 is
    private static void justBearable() {
        Mutualledger x = Check.circle(2);
        Check.thrown("trade(0, 1, 501)", Check.STATE, () -> x.trade(0, 1, 501));
        Check.due("trade(0, 1, 500)", x.trade(0, 1, 500), 0);
        Refused.due("trade(0, 1, 501)", Check.STATE, () -> Check.circle(2), y -> y.trade(0, 1, 501));
    }

    // "as they are ahead of the trade": a tenth of the trade itself does not count yet
    private static void limitAheadOfTheTrade() {
        Mutualledger x = Check.circle(2);
        int[] most = {500, 50, 5};
        for (int i = 0; i < 3; i++) {
            int more = most[i] + 1;
            Check.thrown("trade(0, 1, " + more + ")", Check.STATE, () -> x.trade(0, 1, more));
            Check.due("trade(0, 1, " + most[i] + ")", x.trade(0, 1, most[i]), i);
        }
        Check.due("limit(0)", x.limit(0), 555);
        balances(x, 0, -555);
        Check.thrown("trade(0, 1, 1)", Check.STATE, () -> x.trade(0, 1, 1));
    }

    // A balance above 0 counts as well
    private static void balanceOfTheBuyerCounts() {
        Mutualledger x = Check.circle(3);
        x.trade(0, 1, 450);
        // 450 and 545 can be borne
        Check.thrown("trade(1, 2, 996)", Check.STATE, () -> x.trade(1, 2, 996));
        Check.due("trade(1, 2, 995)", x.trade(1, 2, 995), 1);
    }

    // A guarantee for the buyer, and one by it, count in the limit
    private static void guaranteesOfTheBuyerCount() {
        Mutualledger x = Check.circle(3);
        x.guarantee(2, 0, 500);
        Check.due("trade(0, 1, 1000)", x.trade(0, 1, 1000), 0);
        Check.thrown("trade(2, 1, 1)", Check.STATE, () -> x.trade(2, 1, 1));
        Mutualledger y = Check.circle(3);
        y.guarantee(2, 0, 499);
        Check.thrown("trade(0, 1, 1000)", Check.STATE, () -> y.trade(0, 1, 1000));
        Check.due("trade(0, 1, 999)", y.trade(0, 1, 999), 0);
        Check.thrown("trade(2, 1, 2)", Check.STATE, () -> y.trade(2, 1, 2));
        Check.due("trade(2, 1, 1)", y.trade(2, 1, 1), 1);
    }

    // When old trades count no more the limit is lower, and the buyer may be below it
    private static void limitFallsWithTheDays() {
        Mutualledger x = Check.circle(2);
        x.trade(0, 1, 500);
        x.trade(0, 1, 45);
        x.night(9);
        Check.thrown("trade(0, 1, 10) on day 9", Check.STATE, () -> x.trade(0, 1, 10));
        Check.due("trade(0, 1, 9) on day 9", x.trade(0, 1, 9), 2);
        x.night(1);
        Check.due("limit(0)", x.limit(0), 500);
        balances(x, 0, -554);
        Check.thrown("trade(0, 1, 1)", Check.STATE, () -> x.trade(0, 1, 1));
    }

    // What the seller owes bars nothing
    private static void sellerIsNotBound() {
        Mutualledger x = Check.circle(2);
        x.trade(0, 1, 500);
        x.trade(0, 1, 50);
        x.trade(0, 1, 5);
        Check.due("trade(1, 0, 1000)", x.trade(1, 0, 1000), 3);
    }

    // "By a trade the buyer owes the amount more to the seller": on top, and nothing is netted by day
    private static void owesMore() {
        Mutualledger x = Check.circle(3);
        x.trade(0, 1, 10);
        x.trade(0, 1, 1);
        x.trade(1, 0, 7);
        x.trade(1, 2, 3);
        owes(x, 0, 1, 11);
        owes(x, 1, 0, 7);
        owes(x, 1, 2, 3);
        owes(x, 2, 1, 0);
        owes(x, 0, 8, 0);
    }

    // ---- promise 5

    // "its amount is frozen, or all that there is, if that is less": one more, as much, one less
    private static void frozenPart() {
        for (int more = -1; more <= 1; more++) {
            Mutualledger x = Check.circle(3);
            x.trade(0, 1, 50);
            x.trade(0, 1, 20);
            x.trade(1, 0, 20 - more);
            x.night(1);
            owes(x, 0, 1, 50 + more);
            Check.due("dispute(0)", x.dispute(0), Math.min(50, 50 + more));
            frozen(x, 0, 1, Math.min(50, 50 + more));
            frozen(x, 1, 0, 0);
            owes(x, 0, 1, 50 + more);
            ofTrade(x, 0, Mutualledger.DISPUTED, Math.min(50, 50 + more));
            ofTrade(x, 1, Mutualledger.STANDS, 0);
        }
    }

    // "all that there is": nothing
    private static void nothingToFreeze() {
        Mutualledger x = Check.circle(2);
        x.trade(0, 1, 50);
        x.trade(1, 0, 50);
        x.night(1);
        Check.due("dispute(0)", x.dispute(0), 0);
        ofTrade(x, 0, Mutualledger.DISPUTED, 0);
        frozen(x, 0, 1, 0);
        owes(x, 0, 1, 0);
    }

    // "of what the buyer owes to the seller, and is not frozen": another dispute holds a part of it
    private static void frozenByAnother() {
        Mutualledger x = Check.circle(2);
        x.trade(0, 1, 50);
        x.trade(0, 1, 20);
        x.trade(1, 0, 15);
        x.night(1);
        Check.due("dispute(0)", x.dispute(0), 50);
        Check.due("dispute(1), 5 are left", x.dispute(1), 5);
        frozen(x, 0, 1, 55);
        x.trade(0, 1, 30);
        frozen(x, 0, 1, 55);
        Check.due("dispute(3)", x.dispute(3), 30);
        x.settle(0, false);
        frozen(x, 0, 1, 35);
        ofTrade(x, 1, Mutualledger.DISPUTED, 5);
    }

    // All of it is frozen by another
    private static void allFrozenByAnother() {
        Mutualledger x = Check.circle(2);
        x.trade(0, 1, 50);
        x.trade(0, 1, 20);
        x.trade(1, 0, 30);
        x.night(1);
        Check.due("dispute(0)", x.dispute(0), 40);
        Check.due("dispute(1)", x.dispute(1), 0);
        frozen(x, 0, 1, 40);
    }

    // What the seller owes to the buyer, or the buyer to others, is not touched
    private static void frozenOneWayAlone() {
        Mutualledger x = Check.circle(3);
        x.trade(0, 1, 50);
        x.trade(1, 0, 50);
        x.trade(0, 2, 50);
        Check.due("dispute(0)", x.dispute(0), 50);
        frozen(x, 0, 1, 50);
        frozen(x, 1, 0, 0);
        frozen(x, 0, 2, 0);
        frozen(x, 0, 0, 0);
        balances(x, 0, -50);
    }

    // "if it does not stand": DISPUTED, and VOID
    private static void disputeOfOneThatDoesNotStand() {
        Refused.due("dispute of a DISPUTED one", Check.STATE, TradeEdgesTest::disputed, x -> x.dispute(0));
        Refused.due("dispute of a VOID one", Check.STATE, TradeEdgesTest::voided, x -> x.dispute(0));
    }

    private static Mutualledger disputed() {
        Mutualledger x = Check.circle(2);
        x.trade(0, 1, 50);
        x.trade(0, 1, 20);
        x.dispute(0);
        return x;
    }

    private static Mutualledger voided() {
        Mutualledger x = disputed();
        x.settle(0, true);
        return x;
    }

    // One that was settled and STANDS can be disputed again
    private static void disputeAgain() {
        Mutualledger x = disputed();
        x.settle(0, false);
        Check.due("dispute(0)", x.dispute(0), 50);
        ofTrade(x, 0, Mutualledger.DISPUTED, 50);
        x.settle(0, false);
        Refused.sameAsAfter("a dispute settled without VOID, and none", TradeEdgesTest::standing, () -> {
            Mutualledger y = disputed();
            y.settle(0, false);
            return y;
        });
    }

    private static Mutualledger standing() {
        Mutualledger x = Check.circle(2);
        x.trade(0, 1, 50);
        x.trade(0, 1, 20);
        return x;
    }

    // "or its buyer or seller left": the buyer, the seller, both
    private static void disputeWithOneThatLeft() {
        Refused.due("the buyer left", Check.STATE, () -> left(true, false), x -> x.dispute(0));
        Refused.due("the seller left", Check.STATE, () -> left(false, true), x -> x.dispute(0));
        Refused.due("both left", Check.STATE, () -> left(true, true), x -> x.dispute(0));
        Mutualledger x = left(false, false);
        x.leave(2);
        Check.due("another one left", x.dispute(0), 40);
    }

    private static Mutualledger left(boolean isBuyer, boolean isSeller) {
        Mutualledger x = Check.circle(3);
        x.trade(0, 1, 40);
        if (isBuyer) {
            x.leave(0);
        }
        if (isSeller) {
            x.leave(1);
        }
        return x;
    }

    // What is owed for another one, after leaving, is "what the buyer owes to the seller" too
    private static void freezesWhatWasPassed() {
        Mutualledger x = Check.circle(3);
        x.trade(0, 1, 100);
        x.trade(1, 2, 100);
        x.trade(2, 0, 30);
        x.trade(0, 2, 30);
        x.night(1);
        owes(x, 0, 2, 0);
        x.leave(1);
        owes(x, 0, 2, 100);
        Check.due("dispute(3)", x.dispute(3), 30);
        frozen(x, 0, 2, 30);
    }

    // ---- promise 6

    // "if it is not DISPUTED": STANDS, and VOID
    private static void settleOfOneThatIsNotDisputed() {
        for (int i = 0; i < 2; i++) {
            boolean isVoid = i == 1;
            Refused.due("settle of one that STANDS", Check.STATE, TradeEdgesTest::standing, x -> x.settle(0, isVoid));
            Refused.due("settle of one that is VOID", Check.STATE, TradeEdgesTest::voided, x -> x.settle(0, isVoid));
            Refused.due("settle, the buyer left", Check.STATE, () -> left(true, false), x -> x.settle(0, isVoid));
            Refused.due("settle, both left", Check.STATE, () -> left(true, true), x -> x.settle(0, isVoid));
        }
    }

    // "that part is not frozen any more": that part alone
    private static void thatPartAlone() {
        Mutualledger x = disputed();
        x.dispute(1);
        frozen(x, 0, 1, 70);
        Check.due("settle(0, false)", x.settle(0, false), 0);
        frozen(x, 0, 1, 20);
        owes(x, 0, 1, 70);
        ofTrade(x, 0, Mutualledger.STANDS, 0);
        ofTrade(x, 1, Mutualledger.DISPUTED, 20);
    }

    // "the buyer owes that part less", "what is left of the amount": nothing is left
    private static void voidOfAll() {
        Mutualledger x = disputed();
        Check.due("settle(0, true)", x.settle(0, true), 0);
        owes(x, 0, 1, 20);
        owes(x, 1, 0, 0);
        frozen(x, 0, 1, 0);
        ofTrade(x, 0, Mutualledger.VOID, 0);
        balances(x, 0, -20);
    }

    // A part is left; all is left
    private static void voidOfAPart() {
        for (int part = 0; part <= 50; part += 25) {
            Mutualledger x = Check.circle(2);
            x.trade(0, 1, 50);
            x.trade(1, 0, 50 - part + 1);
            x.trade(0, 1, 1);
            x.night(1);
            Check.due("dispute(0)", x.dispute(0), part);
            Check.due("settle(0, true)", x.settle(0, true), 50 - part);
            owes(x, 0, 1, 0);
            owes(x, 1, 0, 50 - part);
            balances(x, 0, 50 - part);
            balances(x, 1, part - 50);
        }
    }

    // "the seller owes .. more to the buyer": on top of what it owes
    private static void voidOnTop() {
        Mutualledger x = Check.circle(2);
        x.trade(0, 1, 50);
        x.trade(1, 0, 50);
        x.night(1);
        x.trade(1, 0, 7);
        x.dispute(0);
        Check.due("settle(0, true)", x.settle(0, true), 50);
        owes(x, 1, 0, 57);
        owes(x, 0, 1, 0);
    }

    // The seller is not asked whether it can bear that
    private static void voidBelowTheLimit() {
        Mutualledger x = Check.circle(3);
        x.trade(0, 1, 500);
        x.trade(1, 2, 1000);
        x.trade(1, 2, 150);
        balances(x, 1, -650);
        Check.due("limit(1)", x.limit(1), 665);
        x.dispute(0);
        Check.due("settle(0, true)", x.settle(0, true), 0);
        balances(x, 1, -1150);
        Check.due("limit(1)", x.limit(1), 615);
        Check.thrown("trade(1, 2, 1)", Check.STATE, () -> x.trade(1, 2, 1));
    }

    // What is frozen stays through nights, and settles as it was
    private static void frozenThroughNights() {
        Mutualledger x = Check.circle(3);
        x.trade(0, 1, 50);
        x.trade(1, 0, 80);
        x.dispute(0);
        x.fee(500);
        x.night(20);
        frozen(x, 0, 1, 50);
        owes(x, 0, 1, 50);
        Check.due("settle(0, true)", x.settle(0, true), 0);
        owes(x, 0, 1, 0);
    }

    // ---- promises 14 and 15

    // "owes": nothing, one, and to the house
    private static void owesAsked() {
        Mutualledger x = Check.circle(2);
        owes(x, 0, 1, 0);
        owes(x, 0, 8, 0);
        owes(x, 0, 0, 0);
        x.trade(0, 1, 1);
        owes(x, 0, 1, 1);
        x.fee(500);
        x.trade(0, 1, 1);
        x.night(6);
        owes(x, 0, 8, 1);
        owes(x, 0, 1, 1);
        owes(x, 1, 8, 0);
        Check.thrown("owes(8, 0)", Check.INDEX, () -> x.owes(8, 0));
        Check.thrown("owes(8, 8)", Check.INDEX, () -> x.owes(8, 8));
    }

    // "frozen": "the number of a shop, or one that left", not the house
    private static void frozenAsked() {
        Mutualledger x = disputed();
        frozen(x, 0, 1, 50);
        frozen(x, 1, 0, 0);
        frozen(x, 1, 1, 0);
        Check.thrown("frozen(0, 8)", Check.INDEX, () -> x.frozen(0, 8));
        Check.thrown("frozen(8, 0)", Check.INDEX, () -> x.frozen(8, 0));
        x.settle(0, false);
        x.leave(0);
        frozen(x, 0, 1, 0);
        frozen(x, 1, 0, 0);
    }

    // ---- promise 16

    // "0 what it is .. 5 its frozen part, 0 if it is not DISPUTED"
    private static void toldOfATrade() {
        Mutualledger x = Check.circle(8);
        x.night(20);
        x.night(3);
        x.trade(7, 6, 77);
        int[] want = {Mutualledger.STANDS, 7, 6, 77, 23, 0};
        int[] states = {Mutualledger.STANDS, Mutualledger.DISPUTED, Mutualledger.STANDS, Mutualledger.DISPUTED, Mutualledger.VOID};
        for (int step = 0; step < 5; step++) {
            if (step == 1 || step == 3) {
                x.dispute(0);
            } else if (step > 0) {
                x.settle(0, step == 4);
            }
            want[0] = states[step];
            want[5] = states[step] == Mutualledger.DISPUTED ? 77 : 0;
            for (int what = 0; what <= 5; what++) {
                Check.due("ofTrade(0, " + what + ")", x.ofTrade(0, what), want[what]);
            }
            x.night(1);
        }
    }

    // "of shops that left as well": a trade of theirs is told as it was
    private static void toldOfATradeOfThoseThatLeft() {
        Mutualledger x = left(true, true);
        int[] want = {Mutualledger.STANDS, 0, 1, 40, 0, 0};
        for (int what = 0; what <= 5; what++) {
            Check.due("ofTrade(0, " + what + ")", x.ofTrade(0, what), want[what]);
        }
    }

    public static void main(String[] args) {
        amount();
        another();
        numberOfTheTrade();
        hundredTrades();
        hundredTradesEver();
        justBearable();
        limitAheadOfTheTrade();
        balanceOfTheBuyerCounts();
        guaranteesOfTheBuyerCount();
        limitFallsWithTheDays();
        sellerIsNotBound();
        owesMore();
        frozenPart();
        nothingToFreeze();
        frozenByAnother();
        allFrozenByAnother();
        frozenOneWayAlone();
        disputeOfOneThatDoesNotStand();
        disputeAgain();
        disputeWithOneThatLeft();
        freezesWhatWasPassed();
        settleOfOneThatIsNotDisputed();
        thatPartAlone();
        voidOfAll();
        voidOfAPart();
        voidOnTop();
        voidBelowTheLimit();
        frozenThroughNights();
        owesAsked();
        frozenAsked();
        toldOfATrade();
        toldOfATradeOfThoseThatLeft();
        Check.end("TradeEdgesTest");
    }
}
