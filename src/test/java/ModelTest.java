/** All promises: long runs of calls, drawn by a fixed rule, answered alike by program and model. */
public final class ModelTest {
    private static final int RUNS = 260;
    private static final int CALLS = 512;
    private static final int[] EDGES = {-1, 8, 9, 100, 101, 501, 1001, Integer.MIN_VALUE, Integer.MAX_VALUE};

    private static long seed;
    private static Mutualledger x;
    private static Model m;
    // what the runs came to, to see that they come far enough
    private static int longRings, goodsBy, goodsTo, voids, feeTwo, zeroParts;

    private static int draw(int bound) {
        seed = seed * 6364136223846793005L + 1442695040888963407L;
        return (int) ((seed >>> 33) % bound);
    }

    private static int oneOf(int usual) {
        return draw(60) == 0 ? EDGES[draw(EDGES.length)] : usual;
    }

    private static int shop(int style) {
        return oneOf(draw(style % 3 == 0 ? 8 : style % 3 == 1 ? 5 : 7));
    }

    private static String told(Check.Call call) {
        try {
            return "" + call.make();
        } catch (RuntimeException e) {
            Class<?> c = e.getClass();
            return c == Check.INDEX ? "I" : c == Check.ARGUMENT ? "A" : c == Check.STATE ? "S" : e.toString();
        }
    }

    private static void same(String call, Check.Call got, String want) {
        Check.same(call, told(got), want);
    }

    private static void askShop(String run, int a) {
        same(run + "balance(" + a + ")", () -> x.balance(a), m.balance(a));
        same(run + "balanceAnew(" + a + ")", () -> x.balanceAnew(a), m.balanceAnew(a));
        same(run + "limit(" + a + ")", () -> x.limit(a), m.limit(a));
        same(run + "goods(" + a + ")", () -> x.goods(a), m.goods(a));
        same(run + "isIdle(" + a + ")", () -> x.isIdle(a) ? 1 : 0, m.isIdle(a));
        for (int j = -1; j <= 9; j++) {
            int b = j;
            same(run + "owes(" + a + ", " + b + ")", () -> x.owes(a, b), m.owes(a, b));
            same(run + "frozen(" + a + ", " + b + ")", () -> x.frozen(a, b), m.frozen(a, b));
            same(run + "guaranteed(" + a + ", " + b + ")", () -> x.guaranteed(a, b), m.guaranteed(a, b));
        }
    }

    private static void askAll(String run) {
        for (int a = -1; a <= 9; a++) {
            askShop(run, a);
        }
        for (int i = -1; i <= 101; i++) {
            for (int j = i == 0 ? -1 : 0; j <= (i == 0 ? 6 : 5); j++) {
                int a = i;
                int b = j;
                same(run + "ofTrade(" + a + ", " + b + ")", () -> x.ofTrade(a, b), m.ofTrade(a, b));
            }
        }
        askRings(run);
    }

    private static void askRings(String run) {
        same(run + "rings()", () -> x.rings(), m.rings());
        for (int i = -1; i <= x.rings(); i++) {
            for (int j = -1; j <= 7; j++) {
                int a = i;
                int b = j;
                same(run + "ring(" + a + ", " + b + ")", () -> x.ring(a, b), m.ring(a, b));
            }
        }
    }

    private static void count(String call, String answer, int shop) {
        if (call.startsWith("leave") && !answer.equals("I") && !answer.equals("S")) {
            goodsBy += x.goods(shop) > 0 ? 1 : 0;
            goodsTo += x.goods(shop) < 0 ? 1 : 0;
        }
        voids += call.startsWith("settle") && call.endsWith("true)") && answer.length() > 1 ? 1 : 0;
        zeroParts += call.startsWith("dispute") && answer.equals("0") ? 1 : 0;
        if (call.startsWith("night")) {
            feeTwo += x.balance(8) > 0 ? 1 : 0;
            for (int i = 0; i < x.rings(); i++) {
                longRings += x.ring(i, 0) >= 4 ? 1 : 0;
            }
        }
    }

    private static void step(String run, int style) {
        int a = shop(style);
        int b = shop(style);
        int c = oneOf(1 + draw(style % 2 == 0 ? 60 : 600));
        int t = oneOf(draw(style % 5 == 0 ? 100 : 25));
        int kind = draw(100);
        String call;
        String want;
        Check.Call got;
        if (kind < 35) {
            call = "trade(" + a + ", " + b + ", " + c + ")";
            got = () -> x.trade(a, b, c);
            want = m.trade(a, b, c);
        } else if (kind < 47) {
            call = "dispute(" + t + ")";
            got = () -> x.dispute(t);
            want = m.dispute(t);
        } else if (kind < 63) {
            boolean isVoid = draw(2) == 0;
            call = "settle(" + t + ", " + isVoid + ")";
            got = () -> x.settle(t, isVoid);
            want = m.settle(t, isVoid);
        } else if (kind < 71) {
            call = "guarantee(" + a + ", " + b + ", " + c + ")";
            got = () -> x.guarantee(a, b, c);
            want = m.guarantee(a, b, c);
        } else if (kind < 77) {
            call = "revoke(" + a + ", " + b + ", " + c + ")";
            got = () -> x.revoke(a, b, c);
            want = m.revoke(a, b, c);
        } else if (kind < 80) {
            int thousandths = oneOf(draw(501));
            call = "fee(" + thousandths + ")";
            got = () -> x.fee(thousandths);
            want = m.fee(thousandths);
        } else if (kind < 80 + (style % 7 == 0 ? 4 : 12)) {
            int nights = draw(4) == 0 ? oneOf(draw(22)) : 1;
            call = "night(" + nights + ")";
            got = () -> x.night(nights);
            want = m.night(nights);
        } else if (kind < 95 && draw(style % 4 == 0 ? 2 : 5) == 0) {
            call = "leave(" + a + ")";
            got = () -> x.leave(a);
            want = m.leave(a);
        } else {
            call = "join()";
            got = () -> x.join();
            want = m.join();
        }
        same(run + call, got, want);
        count(call, want, a);
        askShop(run + "after " + call + ": ", oneOf(a));
        askShop(run + "after " + call + ": ", oneOf(b));
        askRings(run + "after " + call + ": ");
    }

    public static void main(String[] args) {
        for (int run = 0; run < RUNS; run++) {
            seed = run * 7919L + 17;
            x = new Mutualledger();
            m = new Model();
            for (int i = 0; i < run % 9; i++) {
                same("join()", () -> x.join(), m.join());
            }
            for (int call = 0; call < CALLS - 8; call++) {
                step("run " + run + ", call " + call + ": ", run);
                if (call % 64 == 63) {
                    askAll("run " + run + " after call " + call + ": ");
                }
            }
        }
        System.out.println("rings of 4 or 5: " + longRings + ", goods by: " + goodsBy + ", goods to: " + goodsTo
            + ", voids: " + voids + ", nights with fees: " + feeTwo + ", nothing frozen: " + zeroParts);
        Check.due("long rings were netted", longRings > 50, true);
        Check.due("goods were owed by one", goodsBy > 50, true);
        Check.due("goods were owed to one", goodsTo > 50, true);
        Check.due("voids owed back", voids > 50, true);
        Check.due("fees were paid", feeTwo > 50, true);
        Check.due("disputes froze nothing", zeroParts > 50, true);
        Check.end("ModelTest");
    }
}
