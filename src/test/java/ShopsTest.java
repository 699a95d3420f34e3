/** Promises 1 to 3, and 18: a new object, join, leave, goods. */
public final class ShopsTest {
    private static void newObject() {
        Mutualledger x = new Mutualledger();
        Check.due("rings()", x.rings(), 0);
        Check.due("balance(8)", x.balance(8), 0);
        Check.due("balanceAnew(8)", x.balanceAnew(8), 0);
        Check.thrown("balance(0)", Check.INDEX, () -> x.balance(0));
        Check.thrown("ofTrade(0, 0)", Check.INDEX, () -> x.ofTrade(0, 0));
        Check.due("fee(0)", x.fee(0), 10);
        Check.due("night(1)", x.night(1), 1);
        Mutualledger y = Check.circle(2);
        y.trade(0, 1, 5);
        Check.due("the first trade's day", y.ofTrade(0, 4), 0);
        Mutualledger z = Check.circle(1);
        Check.due("objects apart", z.balance(0), 0);
    }

    private static void join() {
        Mutualledger x = new Mutualledger();
        for (int i = 0; i < 8; i++) {
            int shop = i;
            Check.thrown("limit ahead of join", Check.INDEX, () -> x.limit(shop));
            Check.due("join()", x.join(), i);
            Check.due("limit", x.limit(i), 500);
        }
        Check.thrownWithoutChange("join() of a ninth", Check.STATE, x, () -> x.join());
        Check.due("leave(3)", x.leave(3), 0);
        Check.thrown("join() of a ninth after one left", Check.STATE, () -> x.join());
    }

    private static void leaveRefused() {
        Mutualledger x = Check.circle(3);
        x.trade(0, 1, 100);
        x.trade(1, 2, 50);
        x.dispute(0);
        Check.thrownWithoutChange("leave(0), buyer of a disputed trade", Check.STATE, x, () -> x.leave(0));
        Check.thrownWithoutChange("leave(1), seller of a disputed trade", Check.STATE, x, () -> x.leave(1));
        Check.due("leave(2)", x.leave(2), 50);
        Check.thrownWithoutChange("leave(2) again", Check.INDEX, x, () -> x.leave(2));
        Check.thrownWithoutChange("leave(-1)", Check.INDEX, x, () -> x.leave(-1));
        Check.thrownWithoutChange("leave(3)", Check.INDEX, x, () -> x.leave(3));
        Check.thrownWithoutChange("leave(8)", Check.INDEX, x, () -> x.leave(8));
        x.settle(0, false);
        Check.due("leave(0) after the dispute", x.leave(0), 100);
    }

    /** A dispute that froze nothing holds back all the same. */
    private static void leaveRefusedWithoutFrozenPart() {
        Mutualledger x = Check.circle(2);
        x.trade(0, 1, 10);
        x.trade(1, 0, 10);
        x.night(1);
        Check.due("dispute(0)", x.dispute(0), 0);
        Check.thrown("leave(0)", Check.STATE, () -> x.leave(0));
        Check.thrown("leave(1)", Check.STATE, () -> x.leave(1));
        x.settle(0, true);
        Check.due("leave(1)", x.leave(1), 10);
        Check.due("goods(1)", x.goods(1), 10);
        Check.due("balance(0)", x.balance(0), 0);
    }

    private static void debtsPassThrough() {
        Mutualledger x = Check.circle(5);
        x.trade(3, 2, 40);
        x.trade(1, 2, 70);
        x.trade(2, 4, 50);
        x.trade(2, 0, 30);
        // 1 owes 30 to 0 and 40 to 4; then 3 owes 10 to 4; what 3 owes more is goods
        Check.due("leave(2)", x.leave(2), 30);
        Check.due("owes(1, 0)", x.owes(1, 0), 30);
        Check.due("owes(1, 4)", x.owes(1, 4), 40);
        Check.due("owes(3, 4)", x.owes(3, 4), 10);
        Check.due("owes(3, 0)", x.owes(3, 0), 0);
        Check.due("owes(3, 2)", x.owes(3, 2), 0);
        Check.due("owes(2, 4)", x.owes(2, 4), 0);
        Check.due("goods(2)", x.goods(2), -30);
        Check.due("goods(3)", x.goods(3), 0);
        Check.due("balance(2)", x.balance(2), 0);
        Check.due("balanceAnew(2)", x.balanceAnew(2), 0);
        Check.due("balance(3)", x.balance(3), -10);
        Check.due("balanceAnew(3)", x.balanceAnew(3), -10);
    }

    /** Who owes to the one that leaves, and is owed by it, nets with itself. */
    private static void debtsPassThroughToTheSame() {
        Mutualledger x = Check.circle(3);
        x.trade(0, 1, 60);
        x.trade(1, 0, 25);
        x.trade(1, 2, 20);
        Check.due("leave(1)", x.leave(1), 15);
        Check.due("owes(0, 0)", x.owes(0, 0), 0);
        Check.due("owes(0, 2)", x.owes(0, 2), 20);
        Check.due("owes(0, 1)", x.owes(0, 1), 0);
        Check.due("owes(1, 0)", x.owes(1, 0), 0);
        Check.due("goods(1)", x.goods(1), -15);
        Check.due("balance(0)", x.balance(0), -20);
    }

    /** What it owes to the house passes as well, as the last. */
    private static Mutualledger oneThatOwesToTheHouse() {
        Mutualledger x = Check.circle(4);
        x.trade(0, 1, 200);
        x.night(5);
        x.fee(100);
        x.night(1);
        Check.due("owes(0, 8)", x.owes(0, 8), 20);
        Check.due("owes(0, 1)", x.owes(0, 1), 180);
        return x;
    }

    private static void houseIsLast() {
        Mutualledger x = oneThatOwesToTheHouse();
        x.trade(3, 0, 190);
        Check.due("leave(0)", x.leave(0), 10);
        Check.due("owes(3, 1)", x.owes(3, 1), 180);
        Check.due("owes(3, 8)", x.owes(3, 8), 10);
        Check.due("balance(8)", x.balance(8), 10);
        Check.due("balanceAnew(8)", x.balanceAnew(8), 10);
        Check.due("goods(0)", x.goods(0), 10);
    }

    private static void guarantorsPay() {
        Mutualledger x = oneThatOwesToTheHouse();
        x.guarantee(3, 0, 15);
        x.guarantee(2, 0, 170);
        x.guarantee(0, 2, 5);
        // to 1: 2 pays 170, 3 pays 10; to the house: 3 pays 5, what is left is goods
        Check.due("leave(0)", x.leave(0), 15);
        Check.due("owes(2, 1)", x.owes(2, 1), 170);
        Check.due("owes(3, 1)", x.owes(3, 1), 10);
        Check.due("owes(3, 8)", x.owes(3, 8), 5);
        Check.due("owes(0, 8)", x.owes(0, 8), 0);
        Check.due("goods(0)", x.goods(0), 15);
        Check.due("balance(8)", x.balance(8), 5);
        Check.due("guaranteed(3, 0)", x.guaranteed(3, 0), 0);
        Check.due("guaranteed(0, 2)", x.guaranteed(0, 2), 0);
        Check.due("limit(2)", x.limit(2), 500);
        Check.due("limit(3)", x.limit(3), 500);
        for (int i = 0; i < 4; i++) {
            Check.due("balanceAnew of " + i, x.balanceAnew(i), x.balance(i));
        }
        Check.due("balanceAnew(8)", x.balanceAnew(8), 5);
    }

    /** The lowest guarantor pays first, to the lowest one to whom it is owed. */
    private static void lowestGuarantorFirst() {
        Mutualledger x = Check.circle(8);
        x.trade(3, 7, 100);
        x.trade(3, 1, 60);
        x.guarantee(7, 3, 30);
        x.guarantee(0, 3, 80);
        // to 1: 0 pays 60; to 7: 0 pays 20, 7 itself 30, what is left is goods
        Check.due("leave(3)", x.leave(3), 50);
        Check.due("owes(0, 1)", x.owes(0, 1), 60);
        Check.due("owes(0, 7)", x.owes(0, 7), 20);
        Check.due("owes(7, 1)", x.owes(7, 1), 0);
        Check.due("balance(7)", x.balance(7), 20);
        Check.due("balanceAnew(7)", x.balanceAnew(7), 20);
        Mutualledger y = Check.circle(3);
        y.trade(2, 0, 100);
        y.guarantee(1, 2, 40);
        Check.due("leave(2)", y.leave(2), 60);
        Check.due("owes(1, 0)", y.owes(1, 0), 40);
        Check.due("balance(0)", y.balance(0), 40);
    }

    /** A guarantor to whom it is owed owes nothing, but its guarantee is spent. */
    private static void guarantorIsCreditor() {
        Mutualledger x = Check.circle(4);
        x.trade(0, 1, 100);
        x.trade(0, 2, 100);
        x.guarantee(1, 0, 120);
        Check.due("leave(0)", x.leave(0), 80);
        Check.due("owes(1, 1)", x.owes(1, 1), 0);
        Check.due("owes(1, 2)", x.owes(1, 2), 20);
        Check.due("owes(0, 1)", x.owes(0, 1), 0);
        Check.due("owes(0, 2)", x.owes(0, 2), 0);
        Check.due("balance(1)", x.balance(1), -20);
        Check.due("balanceAnew(1)", x.balanceAnew(1), -20);
        Check.due("balance(2)", x.balance(2), 20);
        Check.due("balanceAnew(2)", x.balanceAnew(2), 20);
        Check.due("goods(0)", x.goods(0), 80);
        Check.due("goods(2)", x.goods(2), 0);
    }

    /** Guarantees that are not called on are gone, on both sides; those of others stay. */
    private static void guaranteesGo() {
        Mutualledger x = Check.circle(3);
        x.guarantee(0, 1, 100);
        x.guarantee(1, 0, 40);
        x.guarantee(1, 2, 30);
        x.guarantee(2, 1, 20);
        x.guarantee(0, 2, 7);
        Check.due("leave(1)", x.leave(1), 0);
        Check.due("guaranteed(0, 1)", x.guaranteed(0, 1), 0);
        Check.due("guaranteed(1, 0)", x.guaranteed(1, 0), 0);
        Check.due("guaranteed(1, 2)", x.guaranteed(1, 2), 0);
        Check.due("guaranteed(2, 1)", x.guaranteed(2, 1), 0);
        Check.due("guaranteed(0, 2)", x.guaranteed(0, 2), 7);
        Check.due("limit(0)", x.limit(0), 493);
        Check.due("limit(2)", x.limit(2), 507);
        Check.due("goods(1)", x.goods(1), 0);
    }

    private static void goodsAsked() {
        Mutualledger x = Check.circle(3);
        x.trade(0, 1, 100);
        x.trade(2, 1, 50);
        Check.due("goods(0)", x.goods(0), 0);
        Check.due("leave(0)", x.leave(0), 100);
        Check.due("goods(0), its own debt", x.goods(0), 100);
        Check.due("leave(1)", x.leave(1), 50);
        Check.due("goods(1), by its own leaving alone", x.goods(1), -50);
        Check.due("leave(2)", x.leave(2), 0);
        Check.due("goods(2)", x.goods(2), 0);
        Check.thrown("goods(3)", Check.INDEX, () -> x.goods(3));
        Check.thrown("goods(-1)", Check.INDEX, () -> x.goods(-1));
        Check.thrown("goods(8)", Check.INDEX, () -> x.goods(8));
        for (int i = 0; i < 3; i++) {
            Check.due("balance of " + i, x.balance(i), 0);
            Check.due("balanceAnew of " + i, x.balanceAnew(i), 0);
        }
    }

    public static void main(String[] args) {
        newObject();
        join();
        leaveRefused();
        leaveRefusedWithoutFrozenPart();
        debtsPassThrough();
        debtsPassThroughToTheSame();
        houseIsLast();
        guarantorsPay();
        lowestGuarantorFirst();
        guarantorIsCreditor();
        guaranteesGo();
        goodsAsked();
        Check.end("ShopsTest");
    }
}
