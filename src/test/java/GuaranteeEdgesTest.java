/**
 * Each sentence of "Terms" and promises 7, 8, 13 and 17 that names a boundary case of guarantees
 * and limits: guarantee, revoke, limit, guaranteed. One test a sentence; the sentence stands ahead
 * of it.
 */
public final class GuaranteeEdgesTest {
    private static final int[] WRONG_AMOUNTS = {
        Integer.MIN_VALUE, Integer.MIN_VALUE + 1, -65535, -500, -1, 0, 501, 1000, 65537, Integer.MAX_VALUE - 500,
        Integer.MAX_VALUE,
    };

    private static void limit(Mutualledger x, int shop, int want) {
        Check.due("limit(" + shop + ")", x.limit(shop), want);
    }

    private static void guaranteed(Mutualledger x, int friend, int shop, int want) {
        Check.due("guaranteed(" + friend + ", " + shop + ")", x.guaranteed(friend, shop), want);
    }

    /** 0 can bear 1500. */
    private static Mutualledger rich() {
        Mutualledger x = Check.circle(4);
        x.guarantee(2, 0, 500);
        x.guarantee(3, 0, 500);
        return x;
    }

    /** 0 guarantees so much for 1, and can bear the rest of 1500. */
    private static Mutualledger pledged(int amount) {
        Mutualledger x = rich();
        for (int rest = amount; rest > 0; rest -= 500) {
            x.guarantee(0, 1, Math.min(rest, 500));
        }
        return x;
    }

    // ---- promise 7

    // "amount: 1 to 500"
    private static void amount() {
        Mutualledger x = rich();
        Check.due("guarantee(0, 1, 1)", x.guarantee(0, 1, 1), 1);
        Check.due("guarantee(0, 1, 500)", x.guarantee(0, 1, 500), 501);
        guaranteed(x, 0, 1, 501);
        for (int amount : WRONG_AMOUNTS) {
            Refused.due("guarantee(0, 1, " + amount + ")", Check.ARGUMENT, GuaranteeEdgesTest::rich,
                y -> y.guarantee(0, 1, amount));
        }
    }

    // "or both are the same": the first and the last shop
    private static void another() {
        for (int shop = 0; shop < 8; shop += 7) {
            int same = shop;
            Refused.due("guarantee of " + shop + " for itself", Check.ARGUMENT, () -> Check.circle(8),
                x -> x.guarantee(same, same, 1));
            Refused.due("revoke of " + shop + " for itself", Check.ARGUMENT, () -> Check.circle(8),
                x -> x.revoke(same, same, 1));
        }
        Mutualledger x = Check.circle(8);
        Check.due("guarantee(0, 7, 1)", x.guarantee(0, 7, 1), 1);
        Check.due("guarantee(7, 0, 2)", x.guarantee(7, 0, 2), 2);
        Check.due("revoke(0, 7, 1)", x.revoke(0, 7, 1), 0);
        Check.due("revoke(7, 0, 1)", x.revoke(7, 0, 1), 1);
    }

    // "if that would be above 1000": 1000 is taken, 1001 is not
    private static void atMost1000() {
        Mutualledger x = pledged(999);
        Check.thrown("guarantee(0, 1, 2)", Check.STATE, () -> x.guarantee(0, 1, 2));
        Check.due("guarantee(0, 1, 1)", x.guarantee(0, 1, 1), 1000);
        limit(x, 0, 500);
        limit(x, 1, 1500);
        Check.thrown("guarantee(0, 1, 1)", Check.STATE, () -> x.guarantee(0, 1, 1));
        Refused.due("guarantee(0, 1, 1) above 1000", Check.STATE, () -> pledged(1000), y -> y.guarantee(0, 1, 1));
        Refused.due("guarantee(0, 1, 500) above 1000", Check.STATE, () -> pledged(501), y -> y.guarantee(0, 1, 500));
        Check.due("guarantee(0, 1, 500)", pledged(500).guarantee(0, 1, 500), 1000);
    }

    // 1000 for each one: what others guarantee, or what is guaranteed for others, does not count
    private static void atMost1000ForEachOne() {
        Mutualledger x = pledged(1000);
        Check.due("guarantee(0, 2, 1)", x.guarantee(0, 2, 1), 1);
        Check.due("guarantee(1, 0, 500)", x.guarantee(1, 0, 500), 500);
        Check.due("guarantee(2, 1, 1)", x.guarantee(2, 1, 1), 1);
        guaranteed(x, 0, 1, 1000);
    }

    // "the balance of the friend and its limit, less the amount, are below 0": 0 is not, -1 is
    private static void justBearable() {
        Mutualledger x = Check.circle(3);
        Check.due("guarantee(0, 1, 500)", x.guarantee(0, 1, 500), 500);
        limit(x, 0, 0);
        Check.thrown("guarantee(0, 1, 1)", Check.STATE, () -> x.guarantee(0, 1, 1));
        Refused.due("guarantee(0, 2, 500)", Check.STATE, () -> {
            Mutualledger y = Check.circle(3);
            y.guarantee(0, 1, 1);
            return y;
        }, y -> y.guarantee(0, 2, 500));
        Mutualledger z = Check.circle(3);
        z.guarantee(0, 1, 1);
        Check.due("guarantee(0, 2, 499)", z.guarantee(0, 2, 499), 499);
    }

    // The balance of the friend counts, below 0 and above; that of the other one does not
    private static void balanceOfTheFriendCounts() {
        Mutualledger x = Check.circle(3);
        x.trade(0, 1, 400);
        // 0: -400 and 540; 1: 400 and 540
        Refused.due("guarantee(0, 2, 141)", Check.STATE, () -> {
            Mutualledger y = Check.circle(3);
            y.trade(0, 1, 400);
            return y;
        }, y -> y.guarantee(0, 2, 141));
        Check.due("guarantee(0, 2, 140)", x.guarantee(0, 2, 140), 140);
        Check.due("guarantee(1, 0, 500)", x.guarantee(1, 0, 500), 500);
        Check.due("guarantee(1, 0, 440)", x.guarantee(1, 0, 440), 940);
        Check.thrown("guarantee(1, 0, 1)", Check.STATE, () -> x.guarantee(1, 0, 1));
        limit(x, 1, -400);
    }

    // The other one may owe as much as it likes
    private static void forOneThatCanBearNothing() {
        Mutualledger x = Check.circle(3);
        x.trade(0, 1, 500);
        x.trade(0, 1, 50);
        x.trade(0, 1, 5);
        Check.due("guarantee(2, 0, 1)", x.guarantee(2, 0, 1), 1);
        Check.due("trade(0, 1, 1)", x.trade(0, 1, 1), 3);
    }

    // A guarantee is no debt and no trade
    private static void guaranteeOwesNothing() {
        Mutualledger x = Check.circle(2);
        x.guarantee(0, 1, 500);
        Check.due("owes(0, 1)", x.owes(0, 1), 0);
        Check.due("balance(0)", x.balance(0), 0);
        Check.due("balanceAnew(0)", x.balanceAnew(0), 0);
        Check.thrown("ofTrade(0, 0)", Check.INDEX, () -> x.ofTrade(0, 0));
        x.night(20);
        guaranteed(x, 0, 1, 500);
        limit(x, 0, 0);
    }

    // ---- promise 8

    // "amount: 1 to 500"
    private static void revokedAmount() {
        Mutualledger x = pledged(1000);
        Check.due("revoke(0, 1, 1)", x.revoke(0, 1, 1), 999);
        Check.due("revoke(0, 1, 500)", x.revoke(0, 1, 500), 499);
        guaranteed(x, 0, 1, 499);
        for (int amount : WRONG_AMOUNTS) {
            Refused.due("revoke(0, 1, " + amount + ")", Check.ARGUMENT, () -> pledged(1000), y -> y.revoke(0, 1, amount));
        }
    }

    // "if it guarantees less than that": as much is taken, one more is not; and of none at all
    private static void notMoreThanItGuarantees() {
        Mutualledger x = pledged(20);
        Check.thrown("revoke(0, 1, 21)", Check.STATE, () -> x.revoke(0, 1, 21));
        Check.due("revoke(0, 1, 20)", x.revoke(0, 1, 20), 0);
        Check.thrown("revoke(0, 1, 1)", Check.STATE, () -> x.revoke(0, 1, 1));
        guaranteed(x, 0, 1, 0);
        limit(x, 0, 1500);
        limit(x, 1, 500);
        Refused.due("revoke(0, 1, 21)", Check.STATE, () -> pledged(20), y -> y.revoke(0, 1, 21));
        Refused.due("revoke(1, 0, 1) of none", Check.STATE, () -> pledged(20), y -> y.revoke(1, 0, 1));
        Refused.due("revoke(0, 2, 1), for another one", Check.STATE, () -> pledged(20), y -> y.revoke(0, 2, 1));
        Refused.due("revoke(2, 1, 1), by another one", Check.STATE, () -> pledged(20), y -> y.revoke(2, 1, 1));
    }

    /** 1 owes as much as its limit and 300 by 0, less 30, allow. */
    private static Mutualledger leaning() {
        Mutualledger x = Check.circle(3);
        x.guarantee(0, 1, 300);
        x.trade(1, 2, 770);
        // -770, and 500, 300 and 77
        x.trade(1, 2, 77);
        // -847, and 500, 300 and 84
        return x;
    }

    // "the balance of the shop and its limit, less the amount, are below 0": 0 is not, -1 is
    private static void shopCanBearIt() {
        Mutualledger x = leaning();
        Check.due("revoke(0, 1, 37)", x.revoke(0, 1, 37), 263);
        Check.due("balance and limit", x.balance(1) + x.limit(1), 0);
        Check.thrown("revoke(0, 1, 1)", Check.STATE, () -> x.revoke(0, 1, 1));
        Refused.due("revoke(0, 1, 38)", Check.STATE, GuaranteeEdgesTest::leaning, y -> y.revoke(0, 1, 38));
    }

    // It is the shop that must bear it, not the friend
    private static void friendNeedNotBearIt() {
        Mutualledger x = Check.circle(3);
        x.guarantee(0, 1, 100);
        x.trade(0, 2, 400);
        x.trade(0, 2, 40);
        x.trade(0, 2, 4);
        Check.due("balance and limit", x.balance(0) + x.limit(0), 0);
        Check.due("revoke(0, 1, 100)", x.revoke(0, 1, 100), 0);
        limit(x, 0, 544);
    }

    // The limit of the shop may have fallen meanwhile
    private static void shopBelowItsLimit() {
        Refused.due("revoke(0, 1, 1)", Check.STATE, () -> {
            Mutualledger x = leaning();
            x.night(10);
            return x;
        }, x -> x.revoke(0, 1, 1));
    }

    // What was guaranteed and revoked leaves nothing behind
    private static void guaranteedAndRevoked() {
        Refused.sameAsAfter("a guarantee revoked, and none", GuaranteeEdgesTest::rich, () -> {
            Mutualledger x = pledged(1000);
            x.revoke(0, 1, 500);
            x.revoke(0, 1, 500);
            return x;
        });
    }

    // ---- promise 13

    // "The limit of a shop is 500"
    private static void limitOfAll() {
        for (int shops = 1; shops <= 8; shops++) {
            Mutualledger x = Check.circle(shops);
            for (int i = 0; i < shops; i++) {
                limit(x, i, 500);
            }
        }
    }

    // "and what is guaranteed for it, less what it guarantees for others": by all, for all
    private static void limitByGuarantees() {
        Mutualledger x = Check.circle(8);
        for (int i = 1; i < 8; i++) {
            x.guarantee(i, 0, 100 + i);
        }
        limit(x, 0, 1228);
        limit(x, 7, 393);
        for (int i = 1; i < 8; i++) {
            x.guarantee(0, i, 10 * i);
        }
        limit(x, 0, 948);
        limit(x, 7, 463);
        limit(x, 1, 409);
    }

    // "a tenth, rounded down, of the amounts, together": 9, 10, 11, and 5 and 5
    private static void tenthRoundedDown() {
        int[] amounts = {1, 9, 10, 11, 19, 20, 99, 100};
        for (int amount : amounts) {
            Mutualledger x = Check.circle(2);
            x.trade(0, 1, amount);
            limit(x, 0, 500 + amount / 10);
            limit(x, 1, 500 + amount / 10);
        }
        Mutualledger x = Check.circle(3);
        x.trade(0, 1, 5);
        limit(x, 0, 500);
        x.trade(2, 0, 5);
        limit(x, 0, 501);
        limit(x, 1, 500);
        x.trade(0, 1, 9);
        limit(x, 0, 501);
        limit(x, 1, 501);
    }

    // "of all trades that are not VOID": one that STANDS, a DISPUTED one, one that is VOID
    private static void limitOfVoidTrades() {
        Mutualledger x = Check.circle(2);
        x.trade(0, 1, 100);
        x.trade(0, 1, 50);
        x.dispute(0);
        limit(x, 0, 515);
        limit(x, 1, 515);
        x.settle(0, false);
        limit(x, 0, 515);
        x.dispute(0);
        x.settle(0, true);
        limit(x, 0, 505);
        limit(x, 1, 505);
    }

    // "of which it is buyer or seller": the trades of others do not count
    private static void limitOfOwnTrades() {
        Mutualledger x = Check.circle(8);
        x.trade(0, 7, 100);
        limit(x, 0, 510);
        limit(x, 7, 510);
        for (int i = 1; i < 7; i++) {
            limit(x, i, 500);
        }
    }

    // "of today and the 9 days ahead of it": day 9 counts, day 10 does not; from the day 0 and later
    private static void limitOfTenDays() {
        for (int start = 0; start <= 40; start += 20) {
            Mutualledger x = Check.circle(2);
            if (start > 0) {
                x.night(20);
            }
            if (start > 20) {
                x.night(20);
            }
            x.trade(0, 1, 100);
            for (int day = 0; day <= 11; day++) {
                limit(x, 0, day <= 9 ? 510 : 500);
                limit(x, 1, day <= 9 ? 510 : 500);
                x.night(1);
            }
        }
    }

    // Netted trades, and those with one that left, count as well
    private static void limitOfNettedTrades() {
        Mutualledger x = Check.circle(2);
        x.trade(0, 1, 100);
        x.trade(1, 0, 100);
        x.night(1);
        limit(x, 0, 520);
        x.leave(1);
        limit(x, 0, 520);
        x.night(8);
        limit(x, 0, 520);
        x.night(1);
        limit(x, 0, 500);
        Check.thrown("limit(1)", Check.INDEX, () -> x.limit(1));
        Check.thrown("limit(8)", Check.INDEX, () -> x.limit(8));
    }

    // ---- promise 17

    // "guaranteed": "the number of a shop, or one that left", not the house
    private static void guaranteedAsked() {
        Mutualledger x = pledged(1000);
        guaranteed(x, 0, 1, 1000);
        guaranteed(x, 1, 0, 0);
        guaranteed(x, 2, 0, 500);
        guaranteed(x, 0, 0, 0);
        Check.thrown("guaranteed(0, 8)", Check.INDEX, () -> x.guaranteed(0, 8));
        Check.thrown("guaranteed(8, 0)", Check.INDEX, () -> x.guaranteed(8, 0));
        x.leave(1);
        guaranteed(x, 0, 1, 0);
        guaranteed(x, 1, 1, 0);
        guaranteed(x, 2, 0, 500);
        limit(x, 0, 1500);
    }

    public static void main(String[] args) {
        amount();
        another();
        atMost1000();
        atMost1000ForEachOne();
        justBearable();
        balanceOfTheFriendCounts();
        forOneThatCanBearNothing();
        guaranteeOwesNothing();
        revokedAmount();
        notMoreThanItGuarantees();
        shopCanBearIt();
        friendNeedNotBearIt();
        shopBelowItsLimit();
        guaranteedAndRevoked();
        limitOfAll();
        limitByGuarantees();
        tenthRoundedDown();
        limitOfVoidTrades();
        limitOfOwnTrades();
        limitOfTenDays();
        limitOfNettedTrades();
        guaranteedAsked();
        Check.end("GuaranteeEdgesTest");
    }
}
