/**
 * Every number that a call takes for a shop, a trade, a ring or what is told: the last one that is
 * taken and the first that is not, on either side, and very large and very small ones; in circles
 * that are empty, in part left, full, and left by all.
 */
public final class NumbersTest {
    private static final int[] NUMBERS = {
        Integer.MIN_VALUE, Integer.MIN_VALUE + 1, Integer.MIN_VALUE + 8, -(1 << 30), -65536, -257, -256, -100, -9,
        -8, -2, -1, 0, 1, 2, 3, 4, 5, 6, 7, 8, 9, 10, 16, 63, 64, 72, 80, 81, 99, 100, 101, 255, 256, 257, 65536,
        (1 << 28) + 1, 1 << 29, (1 << 29) + 1, 1 << 30, Integer.MAX_VALUE - 8, Integer.MAX_VALUE - 1,
        Integer.MAX_VALUE,
    };

    /** A circle, how many joined, and which of them left. */
    private record Circle(String name, int joined, int... left) {
        Mutualledger make() {
            Mutualledger x = Check.circle(joined);
            for (int shop : left) {
                x.leave(shop);
            }
            return x;
        }

        boolean was(int shop) {
            return shop >= 0 && shop < joined;
        }

        boolean is(int shop) {
            boolean is = was(shop);
            for (int gone : left) {
                is &= gone != shop;
            }
            return is;
        }
    }

    private static final Circle[] CIRCLES = {
        new Circle("the empty circle", 0),
        new Circle("a circle of one", 1),
        new Circle("a circle of one that left", 1, 0),
        new Circle("a circle of 5, the first and the last left", 5, 0, 4),
        new Circle("a circle of 7", 7),
        new Circle("the full circle", 8),
        new Circle("the full circle, the first and the last left", 8, 0, 7),
        new Circle("the full circle, all left", 8, 0, 1, 2, 3, 4, 5, 6, 7),
    };

    private static void taken(String what, boolean isTaken, long want, Check.Call call) {
        if (isTaken) {
            Check.same(what, Check.told(call), Long.toString(want));
        } else {
            Check.thrown(what, Check.INDEX, call);
        }
    }

    /** "the number of a shop": leave, limit, isIdle. */
    private static void numberOfAShop(Circle c, int n) {
        Mutualledger x = c.make();
        String in = "(" + n + ") in " + c.name;
        taken("limit" + in, c.is(n), 500, () -> x.limit(n));
        taken("isIdle" + in, c.is(n), 0, () -> x.isIdle(n) ? 1 : 0);
        taken("leave" + in, c.is(n), 0, () -> x.leave(n));
    }

    /** "the number of a shop, or one that left": goods; "or 8" as well: balance, balanceAnew. */
    private static void numberOfOneThatWas(Circle c, int n) {
        Mutualledger x = c.make();
        String in = "(" + n + ") in " + c.name;
        taken("goods" + in, c.was(n), 0, () -> x.goods(n));
        taken("balance" + in, c.was(n) || n == 8, 0, () -> x.balance(n));
        taken("balanceAnew" + in, c.was(n) || n == 8, 0, () -> x.balanceAnew(n));
    }

    private static void numbersOfTwo(Circle c, int n, int m) {
        Mutualledger x = c.make();
        String in = "(" + n + ", " + m + ") in " + c.name;
        taken("owes" + in, c.was(n) && (c.was(m) || m == 8), 0, () -> x.owes(n, m));
        taken("frozen" + in, c.was(n) && c.was(m), 0, () -> x.frozen(n, m));
        taken("guaranteed" + in, c.was(n) && c.was(m), 0, () -> x.guaranteed(n, m));
        if (n == m && c.is(n)) {
            Check.thrown("trade" + in, Check.ARGUMENT, () -> x.trade(n, m, 1));
            Check.thrown("guarantee" + in, Check.ARGUMENT, () -> x.guarantee(n, m, 1));
            Check.thrown("revoke" + in, Check.ARGUMENT, () -> x.revoke(n, m, 1));
            return;
        }
        boolean areShops = c.is(n) && c.is(m);
        taken("trade" + in, areShops, 0, () -> x.trade(n, m, 1));
        taken("guarantee" + in, areShops, 2, () -> x.guarantee(n, m, 2));
        taken("revoke" + in, areShops, 1, () -> x.revoke(n, m, 1));
    }

    /** What the calls change by the wrong numbers of shops: nothing. */
    private static void wrongShopsChangeNothing(Circle c) {
        int[] wrong = {Integer.MIN_VALUE, -1, 7, 8, 9, Integer.MAX_VALUE};
        for (int n : wrong) {
            String in = "(" + n + ") in " + c.name;
            if (!c.is(n)) {
                Refused.due("leave" + in, Check.INDEX, c::make, x -> x.leave(n));
                Refused.due("limit" + in, Check.INDEX, c::make, x -> x.limit(n));
                Refused.due("isIdle" + in, Check.INDEX, c::make, x -> x.isIdle(n) ? 1 : 0);
                Refused.due("trade by" + in, Check.INDEX, c::make, x -> x.trade(n, 1, 1));
                Refused.due("trade with" + in, Check.INDEX, c::make, x -> x.trade(1, n, 1));
                Refused.due("guarantee by" + in, Check.INDEX, c::make, x -> x.guarantee(n, 1, 1));
                Refused.due("guarantee for" + in, Check.INDEX, c::make, x -> x.guarantee(1, n, 1));
                Refused.due("revoke by" + in, Check.INDEX, c::make, x -> x.revoke(n, 1, 1));
                Refused.due("revoke for" + in, Check.INDEX, c::make, x -> x.revoke(1, n, 1));
            }
            if (!c.was(n)) {
                Refused.due("goods" + in, Check.INDEX, c::make, x -> x.goods(n));
                Refused.due("owes by" + in, Check.INDEX, c::make, x -> x.owes(n, 0));
                Refused.due("frozen by" + in, Check.INDEX, c::make, x -> x.frozen(n, 0));
                Refused.due("frozen to" + in, Check.INDEX, c::make, x -> x.frozen(0, n));
                Refused.due("guaranteed by" + in, Check.INDEX, c::make, x -> x.guaranteed(n, 0));
                Refused.due("guaranteed for" + in, Check.INDEX, c::make, x -> x.guaranteed(0, n));
            }
            if (!c.was(n) && n != 8) {
                Refused.due("balance" + in, Check.INDEX, c::make, x -> x.balance(n));
                Refused.due("balanceAnew" + in, Check.INDEX, c::make, x -> x.balanceAnew(n));
                Refused.due("owes to" + in, Check.INDEX, c::make, x -> x.owes(0, n));
            }
        }
    }

    private static Mutualledger withTrades(int trades) {
        Mutualledger x = Check.circle(2);
        for (int i = 0; i < trades; i++) {
            x.trade(i % 2, 1 - i % 2, 3);
        }
        return x;
    }

    /** "the number of a trade": none, one, 99 and 100 trades. */
    private static void numberOfATrade(int trades, int n) {
        boolean isTrade = n >= 0 && n < trades;
        String in = "(" + n + ") of " + trades + " trades";
        Mutualledger x = withTrades(trades);
        taken("ofTrade" + in, isTrade, 3, () -> x.ofTrade(n, 3));
        taken("dispute" + in, isTrade, 3, () -> x.dispute(n));
        taken("settle" + in, isTrade, 0, () -> x.settle(n, true));
    }

    private static void wrongTradesChangeNothing() {
        int[] counts = {0, 1, 100};
        for (int trades : counts) {
            int[] wrong = {Integer.MIN_VALUE, -1, trades, trades + 1, Integer.MAX_VALUE};
            for (int n : wrong) {
                String in = "(" + n + ") of " + trades + " trades";
                Refused.Maker maker = () -> withTrades(trades);
                Refused.due("ofTrade" + in, Check.INDEX, maker, x -> x.ofTrade(n, 0));
                Refused.due("dispute" + in, Check.INDEX, maker, x -> x.dispute(n));
                Refused.due("settle" + in, Check.INDEX, maker, x -> x.settle(n, true));
                Refused.due("settle not void" + in, Check.INDEX, maker, x -> x.settle(n, false));
            }
        }
    }

    /** "what": 0 to 5 of a trade. */
    private static void whatOfATrade() {
        int[] want = {Mutualledger.STANDS, 0, 1, 3, 0, 0};
        for (int what : NUMBERS) {
            Mutualledger x = withTrades(1);
            if (what >= 0 && what <= 5) {
                Check.due("ofTrade(0, " + what + ")", x.ofTrade(0, what), want[what]);
            } else {
                Check.thrown("ofTrade(0, " + what + ")", Check.ARGUMENT, () -> x.ofTrade(0, what));
            }
        }
        Refused.due("ofTrade(0, -1)", Check.ARGUMENT, () -> withTrades(1), x -> x.ofTrade(0, -1));
        Refused.due("ofTrade(0, 6)", Check.ARGUMENT, () -> withTrades(1), x -> x.ofTrade(0, 6));
    }

    private static Mutualledger withRings(int rings) {
        Mutualledger x = Check.circle(8);
        for (int i = 0; i < rings; i++) {
            x.trade(2 * i, 2 * i + 1, 5);
            x.trade(2 * i + 1, 2 * i, 4);
        }
        x.night(1);
        return x;
    }

    /** "ring": from 0 on; "what": 0 to 6. */
    private static void numberOfARing() {
        int[] want = {2, 4, 0, 1, Mutualledger.NONE, Mutualledger.NONE, Mutualledger.NONE};
        for (int rings = 0; rings <= 4; rings++) {
            Mutualledger x = withRings(rings);
            Check.due("rings()", x.rings(), rings);
            for (int n : NUMBERS) {
                taken("ring(" + n + ", 2) of " + rings, n >= 0 && n < rings, 2L * n, () -> x.ring(n, 2));
            }
        }
        for (int what : NUMBERS) {
            Mutualledger x = withRings(1);
            if (what >= 0 && what <= 6) {
                Check.due("ring(0, " + what + ")", x.ring(0, what), want[what]);
            } else {
                Check.thrown("ring(0, " + what + ")", Check.ARGUMENT, () -> x.ring(0, what));
            }
        }
        Refused.due("ring(2, 0) of 2", Check.INDEX, () -> withRings(2), x -> x.ring(2, 0));
        Refused.due("ring(-1, 0) of 2", Check.INDEX, () -> withRings(2), x -> x.ring(-1, 0));
        Refused.due("ring(0, -1)", Check.ARGUMENT, () -> withRings(2), x -> x.ring(0, -1));
        Refused.due("ring(0, 7)", Check.ARGUMENT, () -> withRings(2), x -> x.ring(0, 7));
        Refused.due("ring(0, 0) of none", Check.INDEX, () -> withRings(0), x -> x.ring(0, 0));
    }

    public static void main(String[] args) {
        for (Circle c : CIRCLES) {
            for (int n : NUMBERS) {
                numberOfAShop(c, n);
                numberOfOneThatWas(c, n);
                for (int m : NUMBERS) {
                    numbersOfTwo(c, n, m);
                }
            }
            wrongShopsChangeNothing(c);
        }
        int[] counts = {0, 1, 2, 99, 100};
        for (int trades : counts) {
            for (int n : NUMBERS) {
                numberOfATrade(trades, n);
            }
        }
        wrongTradesChangeNothing();
        whatOfATrade();
        numberOfARing();
        Check.end("NumbersTest");
    }
}
