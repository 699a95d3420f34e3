/**
 * "If several exceptions apply, the one that its throws clause names first is thrown": each wrong
 * argument beside each other one, in a circle that would refuse the call by its state as well.
 */
public final class OrderTest {
    private static final int[] SHOPS = {Integer.MIN_VALUE, -1, 0, 1, 2, 3, 4, 8, Integer.MAX_VALUE};
    private static final int[] AMOUNTS = {Integer.MIN_VALUE, -1, 0, 1, 500, 501, 1000, 1001, Integer.MAX_VALUE};

    /** 0 to 2 are shops, 3 left, 4 never was. */
    private static Mutualledger open() {
        Mutualledger x = Check.circle(4);
        x.leave(3);
        return x;
    }

    /** 0 and 2 can bear nothing any more: the first owes, the second guarantees. */
    private static Mutualledger poor() {
        Mutualledger x = open();
        x.trade(0, 1, 500);
        x.trade(0, 1, 50);
        x.trade(0, 1, 5);
        x.guarantee(2, 1, 500);
        return x;
    }

    /** 100 trades. */
    private static Mutualledger full() {
        Mutualledger x = open();
        for (int i = 0; i < 100; i++) {
            x.trade(i % 3, (i + 1) % 3, 1);
        }
        return x;
    }

    /** 100 trades, and 0 can bear nothing any more. */
    private static Mutualledger poorAndFull() {
        Mutualledger x = poor();
        for (int i = 3; i < 100; i++) {
            x.trade(1, 2, 1);
        }
        return x;
    }

    private static boolean isShop(int n) {
        return n >= 0 && n <= 2;
    }

    private static Class<?> wrongArguments(int a, int b, int amount, int most) {
        if (!isShop(a) || !isShop(b)) {
            return Check.INDEX;
        }
        return a == b || amount < 1 || amount > most ? Check.ARGUMENT : null;
    }

    private static void tradesIn(String name, Refused.Maker maker, boolean isFull, boolean isPoor) {
        for (int a : SHOPS) {
            for (int b : SHOPS) {
                for (int amount : AMOUNTS) {
                    Class<?> due = wrongArguments(a, b, amount, 1000);
                    boolean refused = isFull || isPoor && a != 1 || a != 1 && amount > 500;
                    String call = "trade(" + a + ", " + b + ", " + amount + ") in " + name;
                    if (due != null) {
                        Check.thrown(call, due, () -> maker.make().trade(a, b, amount));
                    } else if (refused) {
                        Check.thrown(call, Check.STATE, () -> maker.make().trade(a, b, amount));
                    }
                }
            }
        }
    }

    private static void trades() {
        tradesIn("open", OrderTest::open, false, false);
        tradesIn("poor", OrderTest::poor, false, true);
        tradesIn("full", OrderTest::full, true, false);
        tradesIn("poor and full", OrderTest::poorAndFull, true, true);
        Refused.due("a full circle, a poor buyer, itself, no amount, no shop", Check.INDEX,
            OrderTest::poorAndFull, x -> x.trade(3, 3, 0));
        Refused.due("a full circle, a poor buyer, no shop for a seller", Check.INDEX,
            OrderTest::poorAndFull, x -> x.trade(0, 8, 1001));
        Refused.due("a full circle, a poor buyer, itself", Check.ARGUMENT,
            OrderTest::poorAndFull, x -> x.trade(0, 0, 1));
        Refused.due("a full circle, a poor buyer, no amount", Check.ARGUMENT,
            OrderTest::poorAndFull, x -> x.trade(0, 1, 0));
        Refused.due("a full circle, a poor buyer", Check.STATE, OrderTest::poorAndFull, x -> x.trade(0, 1, 1));
        Refused.due("a full circle", Check.STATE, OrderTest::full, x -> x.trade(0, 1, 1));
        Refused.due("a poor buyer", Check.STATE, OrderTest::poor, x -> x.trade(0, 1, 1));
    }

    /** 0 guarantees 1000 for 1 and can bear nothing more, nor can 2, which guarantees 500 for 0. */
    private static Mutualledger pledged() {
        Mutualledger x = open();
        x.guarantee(2, 0, 500);
        x.guarantee(0, 1, 500);
        x.guarantee(0, 1, 500);
        return x;
    }

    private static void guarantees() {
        for (int a : SHOPS) {
            for (int b : SHOPS) {
                for (int amount : AMOUNTS) {
                    Class<?> due = wrongArguments(a, b, amount, 500);
                    String call = "(" + a + ", " + b + ", " + amount + ")";
                    if (due != null) {
                        Check.thrown("guarantee" + call, due, () -> pledged().guarantee(a, b, amount));
                        Check.thrown("revoke" + call, due, () -> pledged().revoke(a, b, amount));
                        continue;
                    }
                    if (a != 1) {
                        Check.thrown("guarantee" + call, Check.STATE, () -> pledged().guarantee(a, b, amount));
                    }
                    if (a == 1 || b != 1 || a == 2) {
                        Check.thrown("revoke" + call, Check.STATE, () -> pledged().revoke(a, b, amount));
                    }
                }
            }
        }
        Refused.due("guarantee above 1000 by one who can't bear it, no shop", Check.INDEX,
            OrderTest::pledged, x -> x.guarantee(0, 3, 501));
        Refused.due("guarantee above 1000 by one who can't bear it, no amount", Check.ARGUMENT,
            OrderTest::pledged, x -> x.guarantee(0, 1, 501));
        Refused.due("guarantee above 1000 by one who can't bear it", Check.STATE,
            OrderTest::pledged, x -> x.guarantee(0, 1, 1));
        Refused.due("revoke of none, no shop, itself, no amount", Check.INDEX,
            OrderTest::pledged, x -> x.revoke(8, 8, 0));
        Refused.due("revoke of none, itself", Check.ARGUMENT, OrderTest::pledged, x -> x.revoke(1, 1, 1));
        Refused.due("revoke of none, no amount", Check.ARGUMENT, OrderTest::pledged, x -> x.revoke(1, 0, 501));
        Refused.due("revoke from one who can't bear it", Check.STATE, OrderTest::pledged, x -> x.revoke(2, 0, 1));
    }

    private static void whatIsTold() {
        int[] wrongWhats = {Integer.MIN_VALUE, -1, 7, Integer.MAX_VALUE};
        int[] wrongNumbers = {Integer.MIN_VALUE, -1, 2, 100, Integer.MAX_VALUE};
        for (int what : wrongWhats) {
            Refused.Maker two = () -> {
                Mutualledger x = Check.circle(2);
                x.trade(0, 1, 9);
                x.trade(1, 0, 8);
                x.night(1);
                return x;
            };
            for (int n : wrongNumbers) {
                Check.thrown("ofTrade(" + n + ", " + what + ")", Check.INDEX, () -> two.make().ofTrade(n, what));
                Check.thrown("ring(" + n + ", " + what + ")", Check.INDEX, () -> two.make().ring(n, what));
            }
            Refused.due("ofTrade(2, " + what + ")", Check.INDEX, two, x -> x.ofTrade(2, what));
            Refused.due("ring(1, " + what + ")", Check.INDEX, two, x -> x.ring(1, what));
            Refused.due("ofTrade(1, " + what + ")", Check.ARGUMENT, two, x -> x.ofTrade(1, what));
            Refused.due("ring(0, " + what + ")", Check.ARGUMENT, two, x -> x.ring(0, what));
            Check.thrown("ofTrade(0, " + what + ") of none", Check.INDEX, () -> new Mutualledger().ofTrade(0, what));
            Check.thrown("ring(0, " + what + ") of none", Check.INDEX, () -> new Mutualledger().ring(0, what));
        }
    }

    public static void main(String[] args) {
        trades();
        guarantees();
        whatIsTold();
        Check.end("OrderTest");
    }
}
