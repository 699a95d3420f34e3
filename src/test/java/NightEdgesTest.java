/**
 * Each sentence of "Nights" and promises 9, 10 and 19 to 21 that names a boundary case of nights:
 * fee, night, isIdle, rings, ring. One test a sentence; the sentence stands ahead of it.
 */
public final class NightEdgesTest {
    private static void owes(Mutualledger x, int shop, int other, int want) {
        Check.due("owes(" + shop + ", " + other + ")", x.owes(shop, other), want);
    }

    private static void balances(Mutualledger x, int shop, int want) {
        Check.due("balance(" + shop + ")", x.balance(shop), want);
        Check.due("balanceAnew(" + shop + ")", x.balanceAnew(shop), want);
    }

    private static void idle(Mutualledger x, int shop, boolean want) {
        Check.due("isIdle(" + shop + ")", x.isIdle(shop), want);
    }

    private static void rings(Mutualledger x, String... want) {
        Check.due("rings()", x.rings(), want.length);
        for (int i = 0; i < want.length && i < x.rings(); i++) {
            Check.same("ring " + i, Check.ring(x, i), want[i]);
        }
    }

    /** Debts by trades, three numbers each: buyer, seller, amount. */
    private static Mutualledger owing(int shops, int... debts) {
        Mutualledger x = Check.circle(shops);
        for (int i = 0; i + 2 < debts.length; i += 3) {
            x.trade(debts[i], debts[i + 1], debts[i + 2]);
        }
        return x;
    }

    /** The same five days on, when those who sold are idle; the next night takes the fee. */
    private static Mutualledger idling(int thousandths, int shops, int... debts) {
        Mutualledger x = owing(shops, debts);
        x.fee(thousandths);
        x.night(5);
        Check.due("balance of the house", x.balance(8), 0);
        return x;
    }

    // ---- promise 9

    // "thousandths: 0 to 500", "Returns the thousandths before"
    private static void feeRange() {
        Mutualledger x = new Mutualledger();
        Check.due("fee(0)", x.fee(0), 10);
        Check.due("fee(500)", x.fee(500), 0);
        Check.due("fee(1)", x.fee(1), 500);
        Check.due("fee(499)", x.fee(499), 1);
        Check.due("fee(499)", x.fee(499), 499);
        int[] wrong = {Integer.MIN_VALUE, -501, -1, 501, 1000, 65536, Integer.MAX_VALUE};
        for (int thousandths : wrong) {
            Refused.due("fee(" + thousandths + ")", Check.ARGUMENT, () -> Check.circle(2), y -> y.fee(thousandths));
        }
        Check.due("fee(0) after refused ones", x.fee(0), 499);
    }

    // ---- promise 10

    // "nights: 1 to 20", "Returns today"
    private static void nightRange() {
        Mutualledger x = new Mutualledger();
        Check.due("night(1)", x.night(1), 1);
        Check.due("night(20)", x.night(20), 21);
        Check.due("night(2)", x.night(2), 23);
        Check.due("night(19)", x.night(19), 42);
        int[] wrong = {Integer.MIN_VALUE, -20, -1, 0, 21, 65537, Integer.MAX_VALUE};
        for (int nights : wrong) {
            Refused.due("night(" + nights + ")", Check.ARGUMENT, NightEdgesTest::busy, y -> y.night(nights));
        }
        Check.due("night(1)", x.night(1), 43);
    }

    private static Mutualledger busy() {
        return owing(4, 0, 1, 50, 1, 2, 40, 2, 0, 30, 3, 1, 7);
    }

    // "Lets nights pass": so many at once come to the same as one behind the other
    private static void nightsAtOnce() {
        for (int nights = 2; nights <= 20; nights += 6) {
            int n = nights;
            Refused.sameAsAfter(n + " nights", () -> {
                Mutualledger x = busy();
                x.fee(300);
                x.night(n);
                return x;
            }, () -> {
                Mutualledger x = busy();
                x.fee(300);
                for (int i = 0; i < n; i++) {
                    x.night(1);
                }
                return x;
            });
        }
    }

    // 400 nights in a row
    private static void manyNights() {
        Mutualledger x = idling(10, 2, 0, 1, 100);
        for (int i = 1; i <= 400; i++) {
            Check.due("today", x.night(20), 5 + 20 * i);
        }
        // 100, less 1 a night; of 99 and less a hundredth is nothing
        balances(x, 1, 99);
        owes(x, 0, 8, 1);
        idle(x, 1, true);
    }

    // ---- Nights, 1

    // "a row of 2 to 5 unlike shops": 2, 5, and 6, which is none
    private static void ringSizes() {
        Mutualledger two = owing(2, 0, 1, 3, 1, 0, 3);
        two.night(1);
        rings(two, "2 3 0 1 -1 -1 -1");
        Mutualledger five = owing(8, 3, 7, 9, 7, 4, 9, 4, 6, 9, 6, 5, 9, 5, 3, 9);
        five.night(1);
        rings(five, "5 9 3 7 4 6 5");
        Mutualledger six = owing(8, 0, 1, 9, 1, 2, 9, 2, 3, 9, 3, 4, 9, 4, 5, 9, 5, 0, 9);
        six.night(1);
        rings(six);
        owes(six, 0, 1, 9);
    }

    // "the lowest one first": wherever the debts begin, and not by who comes behind it
    private static void lowestOneFirst() {
        Mutualledger x = owing(8, 7, 6, 5, 6, 2, 5, 2, 7, 5);
        x.night(1);
        rings(x, "3 5 2 7 6 -1 -1");
        Mutualledger y = owing(8, 2, 6, 5, 6, 7, 5, 7, 2, 5);
        y.night(1);
        rings(y, "3 5 2 6 7 -1 -1");
    }

    // The first and the last shop
    private static void ringOfTheFirstAndTheLast() {
        Mutualledger x = owing(8, 7, 0, 1, 0, 7, 1);
        x.night(1);
        rings(x, "2 1 0 7 -1 -1 -1");
        owes(x, 0, 7, 0);
        owes(x, 7, 0, 0);
    }

    // "each of which owes something that is not frozen": one credit that is not frozen is enough
    private static void frozenBarsARing() {
        for (int more = 0; more <= 1; more++) {
            Mutualledger x = owing(3, 0, 1, 50, 1, 2, 40, 2, 0, 30);
            x.dispute(0);
            if (more == 1) {
                x.trade(0, 1, 1);
            }
            x.night(1);
            Check.due("rings()", x.rings(), more);
            owes(x, 0, 1, 50);
            owes(x, 1, 2, 40 - more);
            owes(x, 2, 0, 30 - more);
        }
    }

    // The least that is not frozen, at each place of a ring of each size; all of it frozen, it is none
    private static void frozenAtEachPlace() {
        for (int size = 2; size <= 5; size++) {
            for (int place = 0; place < size; place++) {
                for (int open = 0; open <= 2; open++) {
                    Mutualledger x = Check.circle(5);
                    for (int i = 0; i < size; i++) {
                        x.trade(i, (i + 1) % size, 30);
                    }
                    x.dispute(place);
                    if (open > 0) {
                        x.trade(place, (place + 1) % size, open);
                    }
                    x.night(1);
                    Check.due("rings()", x.rings(), open > 0 ? 1 : 0);
                    for (int i = 0; i < size; i++) {
                        owes(x, i, (i + 1) % size, i == place ? 30 : 30 - open);
                    }
                }
            }
        }
    }

    // All debts of a ring frozen, and one after the other free again
    private static void frozenAllAround() {
        Mutualledger x = owing(3, 0, 1, 50, 1, 2, 40, 2, 0, 30);
        for (int i = 0; i < 3; i++) {
            x.dispute(i);
        }
        for (int i = 0; i < 3; i++) {
            x.night(1);
            rings(x);
            x.settle(i, false);
        }
        x.night(1);
        rings(x, "3 30 0 1 2 -1 -1");
    }

    // "and the last one to the first one": a row that does not close is none
    private static void rowThatDoesNotClose() {
        Mutualledger x = owing(5, 0, 1, 9, 1, 2, 9, 2, 3, 9, 3, 4, 9, 0, 4, 9);
        x.night(1);
        rings(x);
    }

    // What is owed to the house closes no ring
    private static void houseIsInNoRing() {
        Mutualledger x = idling(500, 2, 0, 1, 100);
        x.night(1);
        owes(x, 0, 8, 50);
        x.night(1);
        rings(x);
        balances(x, 8, 75);
    }

    // "of the rings with the fewest shops": ahead of a ring whose numbers come first
    private static void fewestShopsFirst() {
        Mutualledger x = owing(8, 0, 1, 10, 1, 2, 10, 2, 0, 10, 6, 7, 4, 7, 6, 4);
        x.night(1);
        rings(x, "2 4 6 7 -1 -1 -1", "3 10 0 1 2 -1 -1");
        Mutualledger y = owing(8, 0, 1, 10, 1, 2, 10, 2, 3, 10, 3, 4, 10, 4, 0, 10, 4, 7, 8, 7, 6, 8, 6, 5, 8, 5, 4, 8);
        y.night(1);
        rings(y, "4 8 4 7 6 5 -1", "5 10 0 1 2 3 4");
    }

    // "the one whose numbers come first, from the first on": the second number decides, the third, the fifth
    private static void numbersThatComeFirst() {
        Mutualledger second = owing(3, 0, 2, 5, 2, 0, 5, 0, 1, 5, 1, 0, 5);
        second.night(1);
        rings(second, "2 5 0 1 -1 -1 -1", "2 5 0 2 -1 -1 -1");
        Mutualledger third = owing(5, 0, 1, 5, 1, 4, 9, 4, 0, 9, 1, 3, 9, 3, 0, 9);
        third.night(1);
        rings(third, "3 5 0 1 3 -1 -1");
        Mutualledger fifth = owing(6, 0, 3, 6, 3, 2, 6, 2, 1, 6, 1, 5, 9, 5, 0, 9, 1, 4, 9, 4, 0, 9);
        fifth.night(1);
        rings(fifth, "5 6 0 3 2 1 4");
    }

    // It counts by numbers, not by amounts
    private static void notTheGreatestFirst() {
        Mutualledger x = owing(4, 0, 1, 1, 1, 0, 1, 2, 3, 90, 3, 2, 90);
        x.night(1);
        rings(x, "2 1 0 1 -1 -1 -1", "2 90 2 3 -1 -1 -1");
    }

    // "each owes less by the least of these amounts": the least at each place of a ring of each size
    private static void leastAtEachPlace() {
        for (int size = 2; size <= 5; size++) {
            for (int place = 0; place < size; place++) {
                Mutualledger x = Check.circle(5);
                for (int i = 0; i < size; i++) {
                    x.trade(i, (i + 1) % size, i == place ? 7 : 20 + i);
                }
                x.night(1);
                Check.due("rings()", x.rings(), 1);
                Check.due("ring(0, 0)", x.ring(0, 0), size);
                Check.due("ring(0, 1)", x.ring(0, 1), 7);
                for (int i = 0; i < size; i++) {
                    owes(x, i, (i + 1) % size, i == place ? 0 : 13 + i);
                }
            }
        }
    }

    // "As long as there is one": a debt that was netted in part is netted again in the next ring
    private static void asLongAsThereIsOne() {
        Mutualledger x = owing(5, 0, 1, 10, 1, 0, 4, 1, 2, 20, 2, 0, 3, 2, 3, 20, 3, 0, 2, 3, 4, 20, 4, 0, 9);
        x.night(1);
        rings(x, "2 4 0 1 -1 -1 -1", "3 3 0 1 2 -1 -1", "4 2 0 1 2 3 -1", "5 1 0 1 2 3 4");
        owes(x, 0, 1, 0);
        owes(x, 4, 0, 8);
    }

    // "one behind the other": the fee is taken of what the rings leave
    private static void ringsAheadOfFees() {
        Mutualledger x = owing(3, 0, 1, 60, 1, 0, 40, 2, 1, 50);
        x.dispute(0);
        x.fee(500);
        x.night(5);
        x.settle(0, false);
        x.night(1);
        // then 2 owes the most to 1, and pays the 35; ahead of it 0 did
        rings(x, "2 40 0 1 -1 -1 -1");
        owes(x, 0, 1, 20);
        owes(x, 2, 8, 35);
        owes(x, 0, 8, 0);
    }

    // ---- Nights, 2, and promise 19

    // "A shop with a balance above 0": -1, 0, 1
    private static void idleByBalance() {
        Mutualledger x = owing(4, 0, 1, 1, 2, 3, 5, 3, 2, 5);
        x.night(5);
        idle(x, 0, false);
        idle(x, 1, true);
        idle(x, 2, false);
        idle(x, 3, false);
    }

    // "today and in the 4 days ahead of it": day 4, and day 5; from the day 0 and later
    private static void idleByDays() {
        for (int start = 0; start <= 20; start += 20) {
            Mutualledger x = Check.circle(2);
            if (start > 0) {
                x.night(start);
            }
            x.trade(0, 1, 100);
            for (int day = 0; day <= 6; day++) {
                idle(x, 1, day > 4);
                idle(x, 0, false);
                x.night(1);
            }
        }
    }

    // "was buyer or seller of no trade"
    private static void idleAsBuyerOrSeller() {
        Mutualledger x = owing(3, 0, 1, 100);
        x.night(5);
        idle(x, 1, true);
        x.trade(1, 2, 1);
        idle(x, 1, false);
        x.night(5);
        idle(x, 1, true);
        x.trade(2, 1, 1);
        idle(x, 1, false);
    }

    // "VOID or not": a VOID trade counts, and a DISPUTED one; a dispute is no trade
    private static void idleWithVoidTrades() {
        Mutualledger x = owing(3, 0, 1, 100);
        x.night(4);
        x.trade(2, 1, 5);
        x.dispute(1);
        x.night(4);
        idle(x, 1, false);
        x.settle(1, true);
        idle(x, 1, false);
        x.night(1);
        idle(x, 1, true);
        x.dispute(0);
        idle(x, 1, true);
        x.settle(0, false);
        idle(x, 1, true);
    }

    // A trade with one that left counts as well
    private static void idleWithOneThatLeft() {
        Mutualledger x = owing(3, 0, 1, 100);
        x.night(5);
        x.trade(2, 1, 5);
        x.leave(2);
        idle(x, 1, false);
        x.night(5);
        idle(x, 1, true);
        Check.thrown("isIdle(2), that left", Check.INDEX, () -> x.isIdle(2) ? 1 : 0);
        Check.thrown("isIdle(8), the house", Check.INDEX, () -> x.isIdle(8) ? 1 : 0);
    }

    // "Each idle shop .. pays the fee": in the night of the fifth day first, and in each one behind it
    private static void firstFee() {
        Mutualledger x = idling(100, 2, 0, 1, 100);
        idle(x, 1, true);
        x.night(1);
        balances(x, 8, 10);
        x.night(1);
        balances(x, 8, 19);
        x.trade(0, 1, 1);
        x.night(5);
        balances(x, 8, 19);
        x.night(1);
        balances(x, 8, 27);
    }

    // "its balance times the thousandths, divided by 1000, rounded down": just below a whole credit, a whole one, above
    private static void feeRoundedDown() {
        int[] thousandths = {0, 1, 9, 10, 11, 19, 20, 499, 500};
        for (int t : thousandths) {
            for (int amount = 99; amount <= 101; amount++) {
                Mutualledger x = idling(t, 2, 0, 1, amount);
                x.night(1);
                balances(x, 8, amount * t / 1000);
                owes(x, 0, 1, amount - amount * t / 1000);
                owes(x, 0, 8, amount * t / 1000);
                balances(x, 0, -amount);
            }
        }
        Mutualledger one = idling(500, 2, 0, 1, 1);
        one.night(20);
        balances(one, 8, 0);
        Mutualledger two = idling(500, 2, 0, 1, 2);
        two.night(20);
        balances(two, 8, 1);
    }

    // The balance, not what is owed to it alone
    private static void feeOfTheBalance() {
        Mutualledger x = idling(100, 3, 0, 1, 100, 1, 2, 60);
        x.night(1);
        // 1 has a balance of 40, 2 of 60
        owes(x, 0, 8, 4);
        owes(x, 1, 8, 6);
        owes(x, 0, 1, 96);
        owes(x, 1, 2, 54);
        balances(x, 1, 36);
        balances(x, 2, 54);
        balances(x, 8, 10);
    }

    // "but at most what is owed to it by shops and is not frozen": less, as much, more, and nothing
    private static void feeOfWhatIsOpen() {
        for (int open = 0; open <= 40; open++) {
            Mutualledger x = Check.circle(3);
            x.trade(0, 1, 100);
            if (open > 0) {
                x.trade(2, 1, open);
            }
            x.dispute(0);
            x.fee(250);
            x.night(6);
            balances(x, 8, Math.min(open, (100 + open) / 4));
            owes(x, 0, 1, 100);
            owes(x, 2, 8, Math.min(open, (100 + open) / 4));
        }
    }

    // ".. all together": of two who owe
    private static void feeOfAllThatIsOpen() {
        for (int open = 78; open <= 82; open++) {
            Mutualledger x = owing(4, 0, 1, 80, 2, 1, 40, 3, 1, open - 40);
            x.dispute(0);
            x.fee(500);
            x.night(6);
            balances(x, 8, Math.min(open, (80 + open) / 2));
            Check.due("both pay", x.owes(2, 8) + x.owes(3, 8), Math.min(open, (80 + open) / 2));
            owes(x, 0, 8, 0);
        }
    }

    // "first by the one who owes the most to it that is not frozen": one more, as much, one less
    private static void mostPaysFirst() {
        for (int more = -1; more <= 1; more++) {
            Mutualledger x = idling(100, 3, 0, 2, 50, 1, 2, 50 + more);
            x.night(1);
            int fee = (100 + more) / 10;
            owes(x, 0, 8, more <= 0 ? fee : 0);
            owes(x, 1, 8, more > 0 ? fee : 0);
        }
    }

    // "of several by the lowest": of the first and the last, and of all
    private static void lowestOfSeveralPaysFirst() {
        Mutualledger x = idling(100, 8, 7, 3, 50, 0, 3, 50);
        x.night(1);
        owes(x, 0, 8, 10);
        Mutualledger y = idling(500, 8, 7, 0, 30, 6, 0, 30, 5, 0, 30, 4, 0, 30, 3, 0, 30, 2, 0, 30, 1, 0, 30);
        y.night(1);
        // 105 of 210
        for (int i = 1; i <= 7; i++) {
            owes(y, i, 8, i <= 3 ? 30 : i == 4 ? 15 : 0);
        }
    }

    // "that is not frozen": who owes more, but frozen, comes behind
    private static void mostThatIsNotFrozen() {
        Mutualledger x = owing(3, 0, 2, 90, 0, 2, 10, 1, 2, 11);
        x.dispute(0);
        x.fee(150);
        x.night(6);
        // 16 of 111: 11 by 1, then 5 by 0
        owes(x, 1, 8, 11);
        owes(x, 0, 8, 5);
        owes(x, 0, 2, 95);
        Check.due("frozen(0, 2)", x.frozen(0, 2), 90);
    }

    // "as far as that goes": as far as what is not frozen goes; what is frozen stays
    private static void farAsTheOpenGoes() {
        for (int more = -1; more <= 1; more++) {
            Mutualledger x = owing(3, 0, 2, 90, 0, 2, 16 - more, 1, 2, 10 + more);
            x.dispute(0);
            x.fee(150);
            x.night(6);
            // 17 of 116
            owes(x, 0, 8, 16 - more);
            owes(x, 1, 8, 1 + more);
            owes(x, 0, 2, 90);
            Check.due("frozen(0, 2)", x.frozen(0, 2), 90);
        }
    }

    // "as far as that goes, then by the next one likewise": it goes one less, just as far, one more
    private static void nextOnePays() {
        for (int more = -1; more <= 1; more++) {
            Mutualledger y = idling(500, 4, 0, 3, 50, 1, 3, 25 + more, 2, 3, 25 + more);
            y.night(1);
            // half of 98, 100, 102
            owes(y, 0, 8, Math.min(50, 50 + more));
            owes(y, 1, 8, Math.max(0, more));
            owes(y, 2, 8, 0);
        }
        Mutualledger x = idling(500, 4, 0, 3, 20, 1, 3, 60, 2, 3, 70);
        x.night(1);
        // 75 of 150: 70 by 2, 5 by 1
        owes(x, 2, 8, 70);
        owes(x, 1, 8, 5);
        owes(x, 0, 8, 0);
        x.night(1);
        // 37 of 75: by 1, who owes 55 yet
        owes(x, 1, 8, 42);
        x.night(1);
        // 19 of 38: by 0, who owes 20, and 1 owes 18
        owes(x, 0, 8, 19);
        owes(x, 1, 8, 42);
    }

    // "Each idle shop, by rising numbers": the first and the last one, each of its own balance
    private static void allIdleShopsPay() {
        Mutualledger x = idling(100, 8, 3, 0, 100, 3, 7, 50, 0, 7, 10);
        x.night(1);
        owes(x, 3, 8, 15);
        owes(x, 3, 0, 91);
        owes(x, 3, 7, 44);
        owes(x, 0, 7, 10);
        balances(x, 0, 81);
        balances(x, 7, 54);
    }

    // A shop that left, or the house with its balance above 0, pays nothing
    private static void whoPaysNoFee() {
        Mutualledger x = idling(500, 3, 0, 1, 100, 2, 1, 10);
        x.night(1);
        balances(x, 8, 55);
        x.leave(1);
        x.night(20);
        balances(x, 8, 55);
        owes(x, 0, 8, 55);
    }

    // ---- Nights, 3

    // "Today is one more", behind the rings and the fees: a trade ahead of a night is of the day before
    private static void todayIsOneMore() {
        Mutualledger x = Check.circle(2);
        x.trade(0, 1, 5);
        x.night(1);
        x.trade(0, 1, 5);
        Check.due("day of the first", x.ofTrade(0, 4), 0);
        Check.due("day of the second", x.ofTrade(1, 4), 1);
    }

    // ---- promises 20 and 21

    // "0 if there was none": no night, a night without rings, a refused night
    private static void noRings() {
        Mutualledger x = new Mutualledger();
        rings(x);
        x.night(1);
        rings(x);
        Mutualledger y = owing(2, 0, 1, 1);
        y.night(1);
        rings(y);
        Check.thrown("ring(0, 0)", Check.INDEX, () -> y.ring(0, 0));
    }

    // "the latest night": a night without rings leaves none of the night ahead of it
    private static void latestNight() {
        Mutualledger x = owing(4, 0, 1, 3, 1, 0, 3, 2, 3, 4, 3, 2, 4);
        x.night(1);
        rings(x, "2 3 0 1 -1 -1 -1", "2 4 2 3 -1 -1 -1");
        x.trade(1, 2, 5);
        x.trade(2, 1, 5);
        rings(x, "2 3 0 1 -1 -1 -1", "2 4 2 3 -1 -1 -1");
        Check.thrown("night(0)", Check.ARGUMENT, () -> x.night(0));
        rings(x, "2 3 0 1 -1 -1 -1", "2 4 2 3 -1 -1 -1");
        x.night(1);
        rings(x, "2 5 1 2 -1 -1 -1");
        Check.thrown("ring(1, 0)", Check.INDEX, () -> x.ring(1, 0));
        x.night(1);
        rings(x);
        x.trade(1, 2, 5);
        x.trade(2, 1, 5);
        x.night(2);
        rings(x);
    }

    // Rings stay told when their shops leave
    private static void ringsOfThoseThatLeft() {
        Mutualledger x = owing(2, 0, 1, 3, 1, 0, 3);
        x.night(1);
        x.leave(0);
        x.leave(1);
        rings(x, "2 3 0 1 -1 -1 -1");
    }

    // "2 to 6 its shops in their order, NONE if it has not so many": rings of each size
    private static void noneForShopsThatAreNot() {
        for (int size = 2; size <= 5; size++) {
            Mutualledger x = Check.circle(5);
            for (int i = 0; i < size; i++) {
                x.trade(i, (i + 1) % size, 2);
            }
            x.night(1);
            for (int what = 2; what <= 6; what++) {
                Check.due("ring(0, " + what + ")", x.ring(0, what), what - 2 < size ? what - 2 : Mutualledger.NONE);
            }
        }
    }

    // A shorter ring in the row in which a longer one was tried, or stood the night before
    private static void shortBehindLong() {
        Mutualledger x = owing(5, 0, 1, 2, 1, 2, 2, 2, 3, 2, 3, 4, 2, 4, 0, 2);
        x.night(1);
        rings(x, "5 2 0 1 2 3 4");
        x.trade(3, 4, 1);
        x.trade(4, 3, 1);
        x.trade(0, 1, 1);
        x.trade(1, 2, 1);
        x.trade(2, 3, 1);
        x.night(1);
        rings(x, "2 1 3 4 -1 -1 -1");
    }

    // As many rings as debts can come to: all 28 pairs, each with a debt left or none
    private static void allPairs() {
        for (int more = 0; more <= 1; more++) {
            Mutualledger x = Check.circle(8);
            for (int i = 0; i < 64; i++) {
                int a = i / 8;
                int b = i % 8;
                if (a != b) {
                    x.trade(a, b, a < b ? 5 + more : 5);
                }
            }
            x.night(1);
            Check.due("rings()", x.rings(), 28);
            Check.same("the first", Check.ring(x, 0), "2 5 0 1 -1 -1 -1");
            Check.same("the last", Check.ring(x, 27), "2 5 6 7 -1 -1 -1");
            Check.thrown("ring(28, 0)", Check.INDEX, () -> x.ring(28, 0));
            owes(x, 0, 7, more);
            owes(x, 7, 0, 0);
        }
    }

    public static void main(String[] args) {
        feeRange();
        nightRange();
        nightsAtOnce();
        manyNights();
        ringSizes();
        lowestOneFirst();
        ringOfTheFirstAndTheLast();
        frozenBarsARing();
        frozenAtEachPlace();
        frozenAllAround();
        rowThatDoesNotClose();
        houseIsInNoRing();
        fewestShopsFirst();
        numbersThatComeFirst();
        notTheGreatestFirst();
        leastAtEachPlace();
        asLongAsThereIsOne();
        ringsAheadOfFees();
        idleByBalance();
        idleByDays();
        idleAsBuyerOrSeller();
        idleWithVoidTrades();
        idleWithOneThatLeft();
        firstFee();
        feeRoundedDown();
        feeOfTheBalance();
        feeOfWhatIsOpen();
        feeOfAllThatIsOpen();
        mostPaysFirst();
        lowestOfSeveralPaysFirst();
        mostThatIsNotFrozen();
        farAsTheOpenGoes();
        nextOnePays();
        allIdleShopsPay();
        whoPaysNoFee();
        todayIsOneMore();
        noRings();
        latestNight();
        ringsOfThoseThatLeft();
        noneForShopsThatAreNot();
        shortBehindLong();
        allPairs();
        Check.end("NightEdgesTest");
    }
}
