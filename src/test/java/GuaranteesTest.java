/** Promises 7, 8, 13 and 17: guarantee, revoke, limit, guaranteed. */
public final class GuaranteesTest {
    private static void guarantee() {
        Mutualledger x = Check.circle(3);
        Check.due("guarantee(0, 1, 1)", x.guarantee(0, 1, 1), 1);
        Check.due("guarantee(0, 1, 250)", x.guarantee(0, 1, 250), 251);
        Check.due("guaranteed(0, 1)", x.guaranteed(0, 1), 251);
        Check.due("guaranteed(1, 0)", x.guaranteed(1, 0), 0);
        Check.due("limit(0)", x.limit(0), 249);
        Check.due("limit(1)", x.limit(1), 751);
        Check.due("limit(2)", x.limit(2), 500);
        Check.thrownWithoutChange("guarantee(0, 2, 250)", Check.STATE, x, () -> x.guarantee(0, 2, 250));
        Check.due("guarantee(0, 2, 249)", x.guarantee(0, 2, 249), 249);
        Check.due("limit(0)", x.limit(0), 0);
        Check.thrownWithoutChange("trade(0, 1, 1)", Check.STATE, x, () -> x.trade(0, 1, 1));
        x.trade(1, 0, 500);
        Check.due("limit(0)", x.limit(0), 50);
        Check.due("guarantee(0, 2, 500)", x.guarantee(0, 2, 500), 749);
        Check.due("guarantee(0, 2, 50)", x.guarantee(0, 2, 50), 799);
        Check.thrownWithoutChange("guarantee(0, 2, 1)", Check.STATE, x, () -> x.guarantee(0, 2, 1));
        Check.due("limit(0), below 0", x.limit(0), -500);
        Check.due("owes nothing by that", x.owes(0, 2), 0);
    }

    private static void mostGuarantee() {
        Mutualledger x = Check.circle(4);
        x.guarantee(2, 0, 500);
        x.guarantee(3, 0, 500);
        x.guarantee(0, 1, 500);
        x.guarantee(0, 1, 499);
        Check.due("guarantee(0, 1, 1)", x.guarantee(0, 1, 1), 1000);
        Check.due("limit(0)", x.limit(0), 500);
        Check.thrownWithoutChange("guarantee(0, 1, 1) above 1000", Check.STATE, x, () -> x.guarantee(0, 1, 1));
        Check.due("guarantee(0, 2, 1)", x.guarantee(0, 2, 1), 1);
        Check.due("revoke(0, 1, 500)", x.revoke(0, 1, 500), 500);
        Check.thrownWithoutChange("guarantee(0, 1, 501)", Check.ARGUMENT, x, () -> x.guarantee(0, 1, 501));
    }

    private static void revoke() {
        Mutualledger x = Check.circle(3);
        x.guarantee(0, 1, 300);
        Check.thrownWithoutChange("revoke(0, 1, 301)", Check.STATE, x, () -> x.revoke(0, 1, 301));
        Check.thrownWithoutChange("revoke(1, 0, 1)", Check.STATE, x, () -> x.revoke(1, 0, 1));
        Check.due("revoke(0, 1, 1)", x.revoke(0, 1, 1), 299);
        Check.due("limit(0)", x.limit(0), 201);
        Check.due("limit(1)", x.limit(1), 799);
        x.trade(1, 2, 700);
        // balance -700, limit 869: 169 can go
        Check.due("limit(1)", x.limit(1), 869);
        Check.thrownWithoutChange("revoke(0, 1, 170)", Check.STATE, x, () -> x.revoke(0, 1, 170));
        Check.due("revoke(0, 1, 169)", x.revoke(0, 1, 169), 130);
        Check.thrownWithoutChange("revoke(0, 1, 1)", Check.STATE, x, () -> x.revoke(0, 1, 1));
        x.trade(2, 1, 700);
        Check.due("revoke(0, 1, 130)", x.revoke(0, 1, 130), 0);
        Check.due("guaranteed(0, 1)", x.guaranteed(0, 1), 0);
        Check.thrownWithoutChange("revoke(0, 1, 1) of none", Check.STATE, x, () -> x.revoke(0, 1, 1));
    }

    private static void wrongArguments() {
        Mutualledger x = Check.circle(4);
        x.leave(2);
        x.guarantee(0, 1, 200);
        int[] shops = {-1, 2, 4, 8, Integer.MIN_VALUE, Integer.MAX_VALUE};
        for (int shop : shops) {
            Check.thrownWithoutChange("guarantee by " + shop, Check.INDEX, x, () -> x.guarantee(shop, 0, 0));
            Check.thrownWithoutChange("guarantee for " + shop, Check.INDEX, x, () -> x.guarantee(0, shop, 0));
            Check.thrownWithoutChange("guarantee in " + shop, Check.INDEX, x, () -> x.guarantee(shop, shop, 1));
            Check.thrownWithoutChange("revoke by " + shop, Check.INDEX, x, () -> x.revoke(shop, 0, 0));
            Check.thrownWithoutChange("revoke for " + shop, Check.INDEX, x, () -> x.revoke(0, shop, 0));
            Check.thrownWithoutChange("revoke in " + shop, Check.INDEX, x, () -> x.revoke(shop, shop, 1));
        }
        int[] amounts = {0, -1, 501, Integer.MIN_VALUE, Integer.MAX_VALUE};
        for (int amount : amounts) {
            Check.thrownWithoutChange("guarantee " + amount, Check.ARGUMENT, x, () -> x.guarantee(0, 1, amount));
            Check.thrownWithoutChange("revoke " + amount, Check.ARGUMENT, x, () -> x.revoke(0, 1, amount));
        }
        Check.thrownWithoutChange("guarantee for itself", Check.ARGUMENT, x, () -> x.guarantee(1, 1, 1));
        Check.thrownWithoutChange("revoke for itself", Check.ARGUMENT, x, () -> x.revoke(1, 1, 1));
    }

    private static void limit() {
        Mutualledger x = Check.circle(3);
        x.trade(0, 1, 19);
        x.trade(1, 2, 10);
        Check.due("limit(0), a tenth rounded down", x.limit(0), 501);
        Check.due("limit(1), of both together", x.limit(1), 502);
        Check.due("limit(2)", x.limit(2), 501);
        x.night(9);
        Check.due("limit(1) 9 days on", x.limit(1), 502);
        x.trade(2, 0, 100);
        Check.due("limit(0)", x.limit(0), 511);
        x.night(1);
        Check.due("limit(1) 10 days on", x.limit(1), 500);
        Check.due("limit(0)", x.limit(0), 510);
        x.dispute(2);
        Check.due("limit(0), disputed", x.limit(0), 510);
        x.settle(2, true);
        Check.due("limit(0), void", x.limit(0), 500);
        Check.due("limit(2), void", x.limit(2), 500);
    }

    /** A trade with a shop that left counts for the other one still. */
    private static void limitWithLeavers() {
        Mutualledger x = Check.circle(2);
        x.trade(0, 1, 100);
        x.leave(1);
        Check.due("limit(0)", x.limit(0), 510);
        int[] wrong = {-1, 1, 2, 8, Integer.MIN_VALUE, Integer.MAX_VALUE};
        for (int shop : wrong) {
            Check.thrown("limit(" + shop + ")", Check.INDEX, () -> x.limit(shop));
        }
    }

    private static void guaranteedAsked() {
        Mutualledger x = Check.circle(2);
        x.guarantee(0, 1, 3);
        Check.due("guaranteed(0, 0)", x.guaranteed(0, 0), 0);
        int[] wrong = {-1, 2, 8, 9, Integer.MIN_VALUE, Integer.MAX_VALUE};
        for (int shop : wrong) {
            Check.thrown("guaranteed(0, " + shop + ")", Check.INDEX, () -> x.guaranteed(0, shop));
            Check.thrown("guaranteed(" + shop + ", 0)", Check.INDEX, () -> x.guaranteed(shop, 0));
        }
        x.leave(0);
        Check.due("guaranteed(0, 1)", x.guaranteed(0, 1), 0);
        Check.due("guaranteed(1, 0)", x.guaranteed(1, 0), 0);
    }

    public static void main(String[] args) {
        guarantee();
        mostGuarantee();
        revoke();
        wrongArguments();
        limit();
        limitWithLeavers();
        guaranteedAsked();
        Check.end("GuaranteesTest");
    }
}
