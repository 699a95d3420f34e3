/**
 * Each sentence of "Terms", "Leaving" and promises 1 to 3, 11, 12 and 18 that names a boundary case
 * of shops: a new object, join, leave, balance, balanceAnew, goods. One test a sentence; the
 * sentence stands ahead of it.
 */
public final class ShopEdgesTest {
    private static void owes(Mutualledger x, int shop, int other, int want) {
        Check.due("owes(" + shop + ", " + other + ")", x.owes(shop, other), want);
    }

    private static void balances(Mutualledger x, int shop, int want) {
        Check.due("balance(" + shop + ")", x.balance(shop), want);
        Check.due("balanceAnew(" + shop + ")", x.balanceAnew(shop), want);
    }

    /** A circle of 4 in which 0 owes to 1, and to the house what stands behind it. */
    private static Mutualledger owingToTheHouse() {
        Mutualledger x = Check.circle(4);
        x.trade(0, 1, 200);
        x.night(5);
        x.fee(100);
        x.night(1);
        x.fee(0);
        owes(x, 0, 1, 180);
        owes(x, 0, 8, 20);
        return x;
    }

    // ---- promise 1

    // "Creates a circle without shops"
    private static void newWithoutShops() {
        for (int n = -1; n <= 9; n++) {
            int shop = n;
            Mutualledger x = new Mutualledger();
            if (n != 8) {
                Check.thrown("balance(" + n + ")", Check.INDEX, () -> x.balance(shop));
            }
            Check.thrown("leave(" + n + ")", Check.INDEX, () -> x.leave(shop));
            Check.thrown("goods(" + n + ")", Check.INDEX, () -> x.goods(shop));
        }
        Mutualledger x = new Mutualledger();
        balances(x, 8, 0);
        Check.due("rings()", x.rings(), 0);
        Check.thrown("ofTrade(0, 0)", Check.INDEX, () -> x.ofTrade(0, 0));
        Check.due("join()", x.join(), 0);
    }

    // "on the day 0"
    private static void newOnTheDay0() {
        Mutualledger x = Check.circle(2);
        x.trade(0, 1, 1);
        Check.due("day of the first trade", x.ofTrade(0, 4), 0);
        Check.due("night(1)", new Mutualledger().night(1), 1);
    }

    // "the fee is 10 thousandths"
    private static void newFee() {
        Check.due("fee(500)", new Mutualledger().fee(500), 10);
        Mutualledger x = Check.circle(4);
        x.trade(0, 1, 99);
        x.trade(2, 3, 100);
        x.night(6);
        owes(x, 0, 8, 0);
        owes(x, 2, 8, 1);
    }

    // Nights of the empty circle: nothing comes of them but another day
    private static void nightsOfTheEmptyCircle() {
        Mutualledger x = new Mutualledger();
        Check.due("night(20)", x.night(20), 20);
        Check.due("rings()", x.rings(), 0);
        balances(x, 8, 0);
        x.join();
        x.join();
        x.trade(0, 1, 1);
        Check.due("day", x.ofTrade(0, 4), 20);
    }

    // "An object is used for at most 512 calls": the last of them answers as the others
    private static void lastCall() {
        Mutualledger x = new Mutualledger();
        for (int call = 1; call <= 512; call++) {
            if (call <= 8) {
                Check.due("join()", x.join(), call - 1);
            } else if (call <= 108) {
                Check.due("trade", x.trade(call % 8, (call + 1) % 8, 9), call - 9);
            } else {
                Check.due("night(20)", x.night(20), 20 * (call - 108));
            }
        }
    }

    // ---- promise 2

    // "Shops are numbered from 0, at most 8 ever"
    private static void eightJoin() {
        Mutualledger x = new Mutualledger();
        for (int i = 0; i < 8; i++) {
            Check.due("join()", x.join(), i);
        }
        Check.thrown("join() of a ninth", Check.STATE, () -> x.join());
        Refused.due("join() of a ninth", Check.STATE, () -> Check.circle(8), y -> y.join());
        Refused.due("join() of a ninth, twice", Check.STATE, () -> {
            Mutualledger y = Check.circle(8);
            Check.thrown("join()", Check.STATE, () -> y.join());
            return y;
        }, y -> y.join());
    }

    // "at most 8 ever": one that left makes no room
    private static void eightEver() {
        Mutualledger x = Check.circle(7);
        x.leave(0);
        x.leave(6);
        Check.due("join() of the eighth", x.join(), 7);
        Check.thrown("join() of a ninth, two left", Check.STATE, () -> x.join());
        Refused.due("join(), all left", Check.STATE, () -> {
            Mutualledger y = Check.circle(8);
            for (int i = 0; i < 8; i++) {
                Check.due("leave(" + i + ")", y.leave(i), 0);
            }
            return y;
        }, y -> y.join());
    }

    // A shop that joins late is one like the others
    private static void joinsLate() {
        Mutualledger x = Check.circle(1);
        x.night(20);
        Check.due("join()", x.join(), 1);
        balances(x, 1, 0);
        Check.due("limit(1)", x.limit(1), 500);
        Check.due("isIdle(1)", x.isIdle(1), false);
        Check.due("trade(1, 0, 500)", x.trade(1, 0, 500), 0);
    }

    // ---- promise 3

    // "a shop that left is no shop any more"
    private static void leftIsNoShop() {
        Refused.Maker maker = () -> {
            Mutualledger x = Check.circle(3);
            x.trade(0, 1, 10);
            x.guarantee(0, 1, 10);
            x.leave(1);
            return x;
        };
        Refused.due("leave", Check.INDEX, maker, x -> x.leave(1));
        Refused.due("trade by it", Check.INDEX, maker, x -> x.trade(1, 0, 1));
        Refused.due("trade with it", Check.INDEX, maker, x -> x.trade(0, 1, 1));
        Refused.due("guarantee by it", Check.INDEX, maker, x -> x.guarantee(1, 0, 1));
        Refused.due("guarantee for it", Check.INDEX, maker, x -> x.guarantee(0, 1, 1));
        Refused.due("revoke by it", Check.INDEX, maker, x -> x.revoke(1, 0, 1));
        Refused.due("revoke for it", Check.INDEX, maker, x -> x.revoke(0, 1, 1));
        Refused.due("limit", Check.INDEX, maker, x -> x.limit(1));
        Refused.due("isIdle", Check.INDEX, maker, x -> x.isIdle(1) ? 1 : 0);
    }

    // "what is asked; of shops that left as well, where it does not say otherwise"
    private static void leftIsAsked() {
        Mutualledger x = owingToTheHouse();
        x.guarantee(0, 2, 7);
        x.guarantee(2, 0, 9);
        x.leave(0);
        balances(x, 0, 0);
        Check.due("goods(0)", x.goods(0), 191);
        for (int other = 0; other <= 8; other += other == 3 ? 5 : 1) {
            owes(x, 0, other, 0);
        }
        for (int other = 0; other <= 3; other++) {
            owes(x, other, 0, 0);
            Check.due("frozen(0, " + other + ")", x.frozen(0, other), 0);
            Check.due("frozen(" + other + ", 0)", x.frozen(other, 0), 0);
            Check.due("guaranteed(0, " + other + ")", x.guaranteed(0, other), 0);
            Check.due("guaranteed(" + other + ", 0)", x.guaranteed(other, 0), 0);
        }
        Check.due("its trade's buyer", x.ofTrade(0, 1), 0);
        Check.due("its trade", x.ofTrade(0, 0), Mutualledger.STANDS);
    }

    // "A shop can leave if no trade of which it is buyer or seller is DISPUTED": buyer
    private static void disputedBuyerStays() {
        Refused.due("leave of the buyer", Check.STATE, ShopEdgesTest::disputed, x -> x.leave(0));
    }

    // ".. or seller"
    private static void disputedSellerStays() {
        Refused.due("leave of the seller", Check.STATE, ShopEdgesTest::disputed, x -> x.leave(1));
    }

    // The trades of others hold nobody back
    private static void othersDisputesDoNotHold() {
        Mutualledger x = disputed();
        Check.due("leave(2)", x.leave(2), 30);
        Check.due("leave(3)", x.leave(3), 0);
        owes(x, 0, 1, 100);
        Check.due("frozen(0, 1)", x.frozen(0, 1), 50);
    }

    private static Mutualledger disputed() {
        Mutualledger x = Check.circle(4);
        x.trade(0, 1, 50);
        x.trade(0, 1, 50);
        x.trade(3, 2, 30);
        x.dispute(1);
        return x;
    }

    // A dispute that froze nothing is one all the same
    private static void disputeOfNothingHolds() {
        Refused.Maker maker = () -> {
            Mutualledger x = Check.circle(2);
            x.trade(0, 1, 10);
            x.trade(1, 0, 10);
            x.night(1);
            Check.due("dispute(0)", x.dispute(0), 0);
            return x;
        };
        Refused.due("leave(0)", Check.STATE, maker, x -> x.leave(0));
        Refused.due("leave(1)", Check.STATE, maker, x -> x.leave(1));
    }

    // One of several disputes is enough; when all are settled it can leave, VOID or not
    private static void lastDisputeHolds() {
        for (int voids = 0; voids < 4; voids++) {
            Mutualledger x = disputed();
            x.dispute(0);
            x.settle(1, voids % 2 == 1);
            Check.thrown("leave(0), one is left", Check.STATE, () -> x.leave(0));
            Check.thrown("leave(1), one is left", Check.STATE, () -> x.leave(1));
            x.settle(0, voids / 2 == 1);
            int standing = voids == 0 ? 100 : voids == 3 ? 0 : 50;
            Check.due("leave(0)", x.leave(0), standing);
            Check.due("leave(1)", x.leave(1), 0);
        }
    }

    // "Returns how many credits are owed in goods by that, by it or to it": none
    private static void leaveWithoutDebts() {
        Mutualledger x = Check.circle(1);
        Check.due("leave of the only one", x.leave(0), 0);
        Check.due("goods", x.goods(0), 0);
        balances(x, 0, 0);
        Mutualledger y = Check.circle(8);
        Check.due("leave(7)", y.leave(7), 0);
        Check.due("leave(0)", y.leave(0), 0);
        Check.due("goods(7)", y.goods(7), 0);
    }

    // ".. by it": one credit
    private static void leaveOwingOne() {
        Mutualledger x = Check.circle(2);
        x.trade(0, 1, 1);
        Check.due("leave(0)", x.leave(0), 1);
        Check.due("goods(0)", x.goods(0), 1);
        Check.due("goods(1)", x.goods(1), 0);
        balances(x, 0, 0);
        balances(x, 1, 0);
    }

    // ".. or to it": one credit
    private static void leaveOwedOne() {
        Mutualledger x = Check.circle(2);
        x.trade(0, 1, 1);
        Check.due("leave(1)", x.leave(1), 1);
        Check.due("goods(1)", x.goods(1), -1);
        Check.due("goods(0)", x.goods(0), 0);
        balances(x, 0, 0);
        balances(x, 1, 0);
    }

    // ---- Leaving, 1

    private static Mutualledger passed(int owedToIt, int owedByIt) {
        Mutualledger x = Check.circle(3);
        x.trade(0, 1, owedToIt);
        x.trade(1, 2, owedByIt);
        return x;
    }

    // "the lesser of both amounts": what is owed to it is less
    private static void lessIsOwedToIt() {
        Mutualledger x = passed(99, 100);
        Check.due("leave(1)", x.leave(1), 1);
        Check.due("goods(1)", x.goods(1), 1);
        owes(x, 0, 2, 99);
        balances(x, 2, 99);
        balances(x, 0, -99);
    }

    // Both are alike
    private static void asMuchIsOwedToIt() {
        Mutualledger x = passed(100, 100);
        Check.due("leave(1)", x.leave(1), 0);
        Check.due("goods(1)", x.goods(1), 0);
        owes(x, 0, 2, 100);
        owes(x, 0, 1, 0);
        owes(x, 1, 2, 0);
    }

    // What it owes is less
    private static void lessIsOwedByIt() {
        Mutualledger x = passed(101, 100);
        Check.due("leave(1)", x.leave(1), 1);
        Check.due("goods(1)", x.goods(1), -1);
        owes(x, 0, 2, 100);
        balances(x, 0, -100);
    }

    // "the lowest such shop .. to the lowest one to which it owes": 0 and 7, not by who owes the most
    private static void lowestPassFirst() {
        Mutualledger x = Check.circle(8);
        x.trade(7, 3, 90);
        x.trade(0, 3, 20);
        x.trade(1, 3, 30);
        x.trade(3, 6, 80);
        x.trade(3, 2, 25);
        x.trade(3, 5, 35);
        Check.due("leave(3)", x.leave(3), 0);
        owes(x, 0, 2, 20);
        owes(x, 1, 2, 5);
        owes(x, 1, 5, 25);
        owes(x, 7, 5, 10);
        owes(x, 7, 6, 80);
        owes(x, 0, 5, 0);
        owes(x, 0, 6, 0);
        owes(x, 7, 2, 0);
    }

    // "owes .. instead": on top of what it owes to that one already
    private static void passedOnTop() {
        Mutualledger x = Check.circle(3);
        x.trade(0, 2, 5);
        x.trade(2, 0, 3);
        x.trade(0, 1, 10);
        x.trade(1, 2, 10);
        x.leave(1);
        owes(x, 0, 2, 15);
        owes(x, 2, 0, 3);
    }

    // "(nothing, if these are the same)"
    private static void passedToTheSame() {
        for (int other = 29; other <= 31; other++) {
            Mutualledger x = Check.circle(2);
            x.trade(0, 1, 30);
            x.trade(1, 0, other);
            Check.due("leave(1)", x.leave(1), Math.abs(other - 30));
            Check.due("goods(1)", x.goods(1), other - 30);
            owes(x, 0, 0, 0);
            owes(x, 0, 1, 0);
            owes(x, 1, 0, 0);
            balances(x, 0, 0);
        }
    }

    // "to a shop or the house": to the house alone
    private static void passedToTheHouseAlone() {
        Mutualledger x = owingToTheHouse();
        x.trade(1, 0, 180);
        x.night(1);
        owes(x, 0, 1, 0);
        x.trade(2, 0, 21);
        Check.due("leave(0)", x.leave(0), 1);
        Check.due("goods(0)", x.goods(0), -1);
        owes(x, 2, 8, 20);
        balances(x, 8, 20);
        balances(x, 2, -20);
    }

    // The house is the last of those to which it owes, behind shop 7 too
    private static void houseBehindTheLastShop() {
        Mutualledger x = Check.circle(8);
        x.trade(0, 7, 200);
        x.night(5);
        x.fee(100);
        x.night(1);
        x.trade(6, 0, 185);
        x.leave(0);
        owes(x, 6, 7, 180);
        owes(x, 6, 8, 5);
        balances(x, 8, 5);
    }

    // ---- Leaving, 2

    // "as far as its guarantee goes": it goes less far, just as far, farther
    private static void guaranteeGoesAsFar() {
        for (int more = -1; more <= 1; more++) {
            Mutualledger x = Check.circle(3);
            x.trade(0, 1, 100);
            x.guarantee(2, 0, 100 + more);
            Check.due("leave(0)", x.leave(0), more < 0 ? 1 : 0);
            Check.due("goods(0)", x.goods(0), more < 0 ? 1 : 0);
            owes(x, 2, 1, Math.min(100, 100 + more));
            balances(x, 2, -Math.min(100, 100 + more));
            balances(x, 0, 0);
            Check.due("guaranteed(2, 0)", x.guaranteed(2, 0), 0);
            Check.due("limit(2)", x.limit(2), 500);
        }
    }

    // "to each one, by rising numbers": the guarantee is spent on the lowest first
    private static void lowestIsPaidFirst() {
        Mutualledger x = Check.circle(8);
        x.trade(3, 7, 60);
        x.trade(3, 0, 50);
        x.trade(3, 4, 40);
        x.guarantee(5, 3, 91);
        Check.due("leave(3)", x.leave(3), 59);
        owes(x, 5, 0, 50);
        owes(x, 5, 4, 40);
        owes(x, 5, 7, 1);
    }

    // "the house last"
    private static void houseIsPaidLast() {
        for (int more = -1; more <= 1; more++) {
            Mutualledger x = owingToTheHouse();
            x.guarantee(3, 0, 180 + more);
            Check.due("leave(0)", x.leave(0), 20 - more);
            owes(x, 3, 1, Math.min(180, 180 + more));
            owes(x, 3, 8, Math.max(more, 0));
            balances(x, 8, Math.max(more, 0));
        }
    }

    // "its guarantors pay, by rising numbers"
    private static void lowestGuarantorPaysFirst() {
        Mutualledger x = Check.circle(8);
        x.trade(3, 4, 100);
        x.guarantee(7, 3, 100);
        x.guarantee(1, 3, 40);
        x.guarantee(0, 3, 59);
        x.leave(3);
        owes(x, 0, 4, 59);
        owes(x, 1, 4, 40);
        owes(x, 7, 4, 1);
    }

    // For each one all guarantors, ahead of the next one
    private static void allGuarantorsForEachOne() {
        Mutualledger x = Check.circle(4);
        x.trade(3, 1, 50);
        x.trade(3, 2, 50);
        x.guarantee(0, 3, 30);
        x.guarantee(2, 3, 30);
        Check.due("leave(3)", x.leave(3), 40);
        owes(x, 0, 1, 30);
        owes(x, 2, 1, 20);
        owes(x, 0, 2, 0);
        balances(x, 1, 50);
        balances(x, 2, -20);
    }

    // "(nothing, if it is the one to whom it is owed)", "which is so much less by that in either case"
    private static void guarantorIsTheCreditor() {
        Mutualledger x = Check.circle(3);
        x.trade(2, 0, 50);
        x.trade(2, 1, 50);
        x.guarantee(0, 2, 70);
        Check.due("leave(2)", x.leave(2), 30);
        owes(x, 0, 0, 0);
        owes(x, 0, 1, 20);
        balances(x, 0, -20);
        balances(x, 1, 20);
        balances(x, 2, 0);
    }

    // "owes that much instead": a guarantor may be driven below its limit, and owes on top
    private static void guarantorBelowItsLimit() {
        Mutualledger x = Check.circle(3);
        x.guarantee(1, 0, 500);
        x.trade(0, 2, 500);
        x.trade(2, 1, 1);
        x.trade(1, 2, 1);
        x.leave(0);
        owes(x, 1, 2, 501);
        owes(x, 2, 1, 1);
        balances(x, 1, -500);
        Check.due("limit(1)", x.limit(1), 500);
        x.night(10);
        Check.due("limit(1)", x.limit(1), 500);
        Check.thrown("trade(1, 2, 1)", Check.STATE, () -> x.trade(1, 2, 1));
    }

    // What the leaving one guarantees for others pays nothing
    private static void itsOwnGuaranteesPayNothing() {
        Mutualledger x = Check.circle(3);
        x.trade(1, 2, 100);
        x.guarantee(0, 1, 100);
        Check.due("leave(0)", x.leave(0), 0);
        owes(x, 1, 2, 100);
        Check.due("leave(1)", x.leave(1), 100);
    }

    // "If it still owes": to it is owed more than it owes, so no guarantor pays
    private static void noGuarantorPays() {
        Mutualledger x = passed(100, 100);
        x.guarantee(0, 1, 50);
        x.guarantee(2, 1, 50);
        Check.due("leave(1)", x.leave(1), 0);
        owes(x, 0, 2, 100);
        owes(x, 2, 0, 0);
        balances(x, 0, -100);
        balances(x, 2, 100);
    }

    // ---- Leaving, 3 and 4

    // "If shops still owe to it, that is owed in goods": of several, all together
    private static void allIsOwedInGoods() {
        Mutualledger x = Check.circle(8);
        x.trade(0, 4, 11);
        x.trade(7, 4, 13);
        x.trade(5, 4, 17);
        Check.due("leave(4)", x.leave(4), 41);
        Check.due("goods(4)", x.goods(4), -41);
        balances(x, 0, 0);
        balances(x, 7, 0);
        balances(x, 5, 0);
    }

    // "What is left is owed in goods": to several and the house, all together
    private static void allItOwesInGoods() {
        Mutualledger x = owingToTheHouse();
        x.trade(0, 3, 7);
        Check.due("leave(0)", x.leave(0), 207);
        Check.due("goods(0)", x.goods(0), 207);
        balances(x, 8, 0);
        balances(x, 1, 0);
        balances(x, 3, 0);
        balances(x, 0, 0);
    }

    // "All guarantees for it and by it are gone": the first and the last shop; those of others stay
    private static void guaranteesAreGone() {
        int[] leavers = {0, 3, 7};
        for (int leaver : leavers) {
            Mutualledger x = Check.circle(8);
            for (int i = 0; i < 64; i++) {
                if (i / 8 != i % 8) {
                    x.guarantee(i / 8, i % 8, 1 + i);
                }
            }
            Check.due("leave(" + leaver + ")", x.leave(leaver), 0);
            for (int i = 0; i < 64; i++) {
                boolean gone = i / 8 == i % 8 || i / 8 == leaver || i % 8 == leaver;
                Check.due("guaranteed(" + i / 8 + ", " + i % 8 + ")", x.guaranteed(i / 8, i % 8), gone ? 0 : 1 + i);
            }
        }
    }

    // "a guarantor that left" pays nothing
    private static void guarantorThatLeft() {
        Mutualledger x = Check.circle(3);
        x.guarantee(2, 0, 300);
        x.leave(2);
        x.trade(0, 1, 100);
        Check.due("limit(0)", x.limit(0), 510);
        Check.due("leave(0)", x.leave(0), 100);
        balances(x, 2, 0);
        balances(x, 1, 0);
    }

    // All leave, one behind the other
    private static void allLeave() {
        Mutualledger x = Check.circle(8);
        for (int i = 0; i < 8; i++) {
            x.trade(i, (i + 1) % 8, 10 * (i + 1));
        }
        int goods = 0;
        for (int i = 7; i >= 0; i--) {
            goods += x.leave(i);
        }
        Check.due("goods of all", goods > 0, true);
        for (int i = 0; i <= 8; i++) {
            balances(x, i, 0);
        }
        Check.due("night(1)", x.night(1), 1);
        Check.due("rings()", x.rings(), 0);
    }

    // ---- promises 11, 12

    // "what others owe to it, less what it owes, all together": below 0, 0, above 0
    private static void balanceOnEitherSide() {
        Mutualledger x = Check.circle(3);
        x.trade(0, 1, 7);
        x.trade(1, 2, 7);
        x.trade(2, 1, 3);
        x.trade(1, 2, 3);
        balances(x, 0, -7);
        balances(x, 1, 0);
        balances(x, 2, 7);
    }

    // "that of the house likewise"
    private static void balanceOfTheHouse() {
        Mutualledger x = owingToTheHouse();
        balances(x, 8, 20);
        balances(x, 0, -200);
        balances(x, 1, 180);
    }

    // "that of a shop that left is 0", whatever came ahead of it and comes after it
    private static void balanceOfOneThatLeft() {
        Mutualledger x = owingToTheHouse();
        x.trade(1, 2, 30);
        x.trade(3, 1, 9);
        x.guarantee(2, 1, 100);
        x.leave(1);
        balances(x, 1, 0);
        x.leave(0);
        x.leave(2);
        x.night(7);
        balances(x, 1, 0);
        balances(x, 0, 0);
        balances(x, 2, 0);
        balances(x, 3, 0);
        balances(x, 8, 0);
    }

    // "found from all trades that are not VOID": a DISPUTED one counts, a VOID one not
    private static void anewWithoutVoidTrades() {
        Mutualledger x = Check.circle(2);
        x.trade(0, 1, 40);
        x.dispute(0);
        balances(x, 0, -40);
        x.settle(0, true);
        balances(x, 0, 0);
        balances(x, 1, 0);
    }

    // "and from all fees, what guarantors paid, and what was owed in goods"
    private static void anewOfAllKinds() {
        Mutualledger x = owingToTheHouse();
        x.guarantee(2, 0, 190);
        x.leave(0);
        balances(x, 0, 0);
        balances(x, 1, 180);
        balances(x, 2, -190);
        balances(x, 8, 10);
    }

    // Very large sums: a hundred trades of 1000
    private static void largestSums() {
        Mutualledger x = Check.circle(2);
        x.trade(0, 1, 500);
        for (int i = 1; i < 100; i++) {
            x.trade(i % 2, 1 - i % 2, 1000);
        }
        owes(x, 0, 1, 49500);
        owes(x, 1, 0, 50000);
        balances(x, 0, 500);
        Check.due("limit(0)", x.limit(0), 10450);
        for (int i = 0; i < 100; i += 2) {
            x.dispute(i);
            x.settle(i, true);
        }
        owes(x, 0, 1, 0);
        balances(x, 0, 50000);
        balances(x, 1, -50000);
        x.fee(500);
        x.night(6);
        owes(x, 1, 8, 25000);
        owes(x, 1, 0, 25000);
        balances(x, 8, 25000);
        balances(x, 0, 25000);
        Check.due("leave(1)", x.leave(1), 50000);
        Check.due("goods(1)", x.goods(1), 50000);
        balances(x, 8, 0);
    }

    // ---- promise 18

    // "by its own leaving alone": what others owe in goods to it, or it to them, by theirs is not told
    private static void goodsByItsOwnLeaving() {
        Mutualledger x = Check.circle(3);
        x.trade(0, 1, 10);
        x.trade(1, 2, 3);
        x.trade(2, 0, 2);
        Check.due("leave(1)", x.leave(1), 7);
        Check.due("goods(1)", x.goods(1), -7);
        Check.due("goods(0)", x.goods(0), 0);
        Check.due("leave(0)", x.leave(0), 1);
        Check.due("goods(0)", x.goods(0), 1);
        Check.due("goods(1) still", x.goods(1), -7);
        Check.due("leave(2)", x.leave(2), 0);
        Check.due("goods(2)", x.goods(2), 0);
    }

    // "0 of others"
    private static void goodsOfOthers() {
        Mutualledger x = Check.circle(8);
        x.trade(0, 7, 10);
        for (int i = 0; i < 8; i++) {
            Check.due("goods(" + i + ")", x.goods(i), 0);
        }
        Check.thrown("goods of the house", Check.INDEX, () -> x.goods(8));
    }

    public static void main(String[] args) {
        newWithoutShops();
        newOnTheDay0();
        newFee();
        nightsOfTheEmptyCircle();
        lastCall();
        eightJoin();
        eightEver();
        joinsLate();
        leftIsNoShop();
        leftIsAsked();
        disputedBuyerStays();
        disputedSellerStays();
        othersDisputesDoNotHold();
        disputeOfNothingHolds();
        lastDisputeHolds();
        leaveWithoutDebts();
        leaveOwingOne();
        leaveOwedOne();
        lessIsOwedToIt();
        asMuchIsOwedToIt();
        lessIsOwedByIt();
        lowestPassFirst();
        passedOnTop();
        passedToTheSame();
        passedToTheHouseAlone();
        houseBehindTheLastShop();
        guaranteeGoesAsFar();
        lowestIsPaidFirst();
        houseIsPaidLast();
        lowestGuarantorPaysFirst();
        allGuarantorsForEachOne();
        guarantorIsTheCreditor();
        guarantorBelowItsLimit();
        itsOwnGuaranteesPayNothing();
        noGuarantorPays();
        allIsOwedInGoods();
        allItOwesInGoods();
        guaranteesAreGone();
        guarantorThatLeft();
        allLeave();
        balanceOnEitherSide();
        balanceOfTheHouse();
        balanceOfOneThatLeft();
        anewWithoutVoidTrades();
        anewOfAllKinds();
        largestSums();
        goodsByItsOwnLeaving();
        goodsOfOthers();
        Check.end("ShopEdgesTest");
    }
}
