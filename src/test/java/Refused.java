/**
 * Holds a refused call to the exception that is due, and the object to be as one that never had the
 * call. Each part of the picture is taken of an object of its own: nothing is promised of one after
 * its 512th call.
 */
final class Refused {
    /** Makes the same object by the same calls each time. */
    interface Maker {
        Mutualledger make();
    }

    /** A call on an object. */
    interface Use {
        long on(Mutualledger x);
    }

    private static final int PARTS = 5;

    private Refused() {
    }

    static void due(String what, Class<?> kind, Maker maker, Use call) {
        for (int part = 0; part < PARTS; part++) {
            Mutualledger x = maker.make();
            Check.thrown(what, kind, () -> call.on(x));
            Check.same("picture " + part + " after " + what, picture(part, x), picture(part, maker.make()));
        }
    }

    /** Both objects must answer alike in all that can be asked and in what comes after. */
    static void sameAsAfter(String what, Maker one, Maker other) {
        for (int part = 0; part < PARTS; part++) {
            Check.same("picture " + part + " of " + what, picture(part, one.make()), picture(part, other.make()));
        }
    }

    private static String picture(int part, Mutualledger x) {
        switch (part) {
            case 0:
                return shops(x);
            case 1:
                return trades(x, 0);
            case 2:
                return trades(x, 3);
            case 3:
                return rings(x);
            default:
                return later(x);
        }
    }

    private static String shops(Mutualledger x) {
        StringBuilder s = new StringBuilder();
        for (int a = 0; a <= 8; a++) {
            int one = a;
            s.append('\n').append(a).append(':');
            ask(s, () -> x.balance(one));
            ask(s, () -> x.balanceAnew(one));
            ask(s, () -> x.limit(one));
            ask(s, () -> x.goods(one));
            ask(s, () -> x.isIdle(one) ? 1 : 0);
            for (int b = 0; b <= 8; b++) {
                int other = b;
                ask(s, () -> x.owes(one, other));
                ask(s, () -> x.frozen(one, other));
                ask(s, () -> x.guaranteed(one, other));
            }
        }
        return s.toString();
    }

    private static String trades(Mutualledger x, int firstWhat) {
        StringBuilder s = new StringBuilder();
        for (int i = 0; i <= 100; i++) {
            int trade = i;
            for (int j = firstWhat; j < firstWhat + 3; j++) {
                int what = j;
                ask(s, () -> x.ofTrade(trade, what));
            }
        }
        return s.toString();
    }

    private static String rings(Mutualledger x) {
        StringBuilder s = new StringBuilder();
        int rings = x.rings();
        for (int i = 0; i <= rings && i <= 56; i++) {
            int ring = i;
            for (int j = 0; j < 7; j++) {
                int what = j;
                ask(s, () -> x.ring(ring, what));
            }
        }
        return s.toString();
    }

    /** What can't be asked shows in later calls: the fee, today, how many shops and trades there are. */
    private static String later(Mutualledger x) {
        StringBuilder s = new StringBuilder();
        ask(s, () -> x.fee(300));
        ask(s, () -> x.night(1));
        for (int i = 0; i <= 8; i++) {
            ask(s, () -> x.join());
        }
        for (int a = 0; a < 8; a++) {
            for (int b = 0; b < 8; b++) {
                int one = a;
                int other = b;
                ask(s, () -> x.guarantee(one, other, 1));
                ask(s, () -> x.trade(one, other, 1));
                ask(s, () -> x.revoke(one, other, 1));
            }
        }
        ask(s, () -> x.night(6));
        for (int a = 0; a <= 8; a++) {
            int one = a;
            ask(s, () -> x.balance(one));
        }
        return s.toString();
    }

    private static void ask(StringBuilder s, Check.Call call) {
        s.append(' ').append(Check.told(call));
    }
}
