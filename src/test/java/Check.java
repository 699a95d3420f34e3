/** What the tests share: it counts the answers that are not due and tells them. */
final class Check {
    /** A call of the program. */
    interface Call {
        long make();
    }

    static final Class<?> INDEX = IndexOutOfBoundsException.class;
    static final Class<?> ARGUMENT = IllegalArgumentException.class;
    static final Class<?> STATE = IllegalStateException.class;

    private static int right = 0;
    private static int wrong = 0;

    private Check() {
    }

    static void due(String what, long got, long want) {
        if (got == want) {
            right++;
        } else {
            wrong++;
            System.out.println(what + " answered " + got + ", due is " + want);
        }
    }

    static void due(String what, boolean got, boolean want) {
        due(what, got ? 1 : 0, want ? 1 : 0);
    }

    /** The very exception is due, not one of a class below it, as the machine's own ones are. */
    static void thrown(String what, Class<?> kind, Call call) {
        try {
            long got = call.make();
            wrong++;
            System.out.println(what + " answered " + got + ", due is " + kind.getSimpleName());
        } catch (RuntimeException e) {
            if (e.getClass() == kind) {
                right++;
            } else {
                wrong++;
                System.out.println(what + " threw " + e + ", due is " + kind.getSimpleName());
            }
        }
    }

    static Mutualledger circle(int shops) {
        Mutualledger x = new Mutualledger();
        for (int i = 0; i < shops; i++) {
            x.join();
        }
        return x;
    }

    /** All that can be asked, to see that a call that throws changes nothing. */
    static String picture(Mutualledger x) {
        StringBuilder s = new StringBuilder();
        for (int i = 0; i <= 8; i++) {
            int a = i;
            s.append(' ').append(told(() -> x.balance(a))).append(' ').append(told(() -> x.balanceAnew(a)))
                .append(' ').append(told(() -> x.limit(a))).append(' ').append(told(() -> x.goods(a)))
                .append(' ').append(told(() -> x.isIdle(a) ? 1 : 0)).append(" |");
            for (int j = 0; j <= 8; j++) {
                int b = j;
                s.append(' ').append(told(() -> x.owes(a, b))).append(' ').append(told(() -> x.frozen(a, b)))
                    .append(' ').append(told(() -> x.guaranteed(a, b)));
            }
            s.append('\n');
        }
        for (int i = 0; i < 101; i++) {
            for (int j = 0; j < 6; j++) {
                int a = i;
                int b = j;
                s.append(' ').append(told(() -> x.ofTrade(a, b)));
            }
        }
        s.append('\n').append(x.rings());
        for (int i = 0; i < x.rings(); i++) {
            for (int j = 0; j < 7; j++) {
                s.append(' ').append(x.ring(i, j));
            }
        }
        return s.toString();
    }

    /** The answer, or the name of what is thrown. */
    static String told(Call call) {
        try {
            return Long.toString(call.make());
        } catch (RuntimeException e) {
            return e.getClass().getSimpleName();
        }
    }

    /** The call must throw, and all answers must be as before. */
    static void thrownWithoutChange(String what, Class<?> kind, Mutualledger x, Call call) {
        String before = picture(x);
        thrown(what, kind, call);
        if (picture(x).equals(before)) {
            right++;
        } else {
            wrong++;
            System.out.println(what + " changed something");
        }
    }

    static void same(String what, String got, String want) {
        if (got.equals(want)) {
            right++;
        } else {
            wrong++;
            System.out.println(what + " was " + got + ", due is " + want);
        }
    }

    /** A ring's row as text: how many shops, by how much less, its shops. */
    static String ring(Mutualledger x, int ring) {
        StringBuilder s = new StringBuilder();
        for (int what = 0; what < 7; what++) {
            s.append(what == 0 ? "" : " ").append(x.ring(ring, what));
        }
        return s.toString();
    }

    static void end(String test) {
        System.out.println(test + ": " + right + " right, " + wrong + " wrong");
        if (wrong > 0 || right == 0) {
            System.exit(1);
        }
    }
}
