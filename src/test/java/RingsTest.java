/** Promises 10, 20 and 21: the rings of a night, rings, ring. */
public final class RingsTest {
    private static void none() {
        Mutualledger x = Check.circle(3);
        Check.due("rings() ahead of any night", x.rings(), 0);
        Check.thrown("ring(0, 0)", Check.INDEX, () -> x.ring(0, 0));
        x.trade(0, 1, 10);
        x.trade(1, 2, 10);
        x.night(1);
        Check.due("rings() without a ring", x.rings(), 0);
        Check.thrown("ring(0, 0)", Check.INDEX, () -> x.ring(0, 0));
    }

    private static void shortestFirst() {
        Mutualledger x = Check.circle(4);
        x.trade(0, 1, 30);
        x.trade(1, 2, 30);
        x.trade(2, 0, 30);
        x.trade(3, 2, 8);
        x.trade(2, 3, 9);
        x.night(1);
        Check.due("rings()", x.rings(), 2);
        Check.same("the first ring", Check.ring(x, 0), "2 8 2 3 -1 -1 -1");
        Check.same("the second ring", Check.ring(x, 1), "3 30 0 1 2 -1 -1");
        Check.due("owes(2, 3)", x.owes(2, 3), 1);
        x.night(1);
        Check.due("rings() of the latest night", x.rings(), 0);
    }

    private static void asked() {
        Mutualledger x = Check.circle(2);
        x.trade(0, 1, 30);
        x.trade(1, 0, 20);
        x.night(1);
        int[] rings = {-1, 1, 56, 57, Integer.MIN_VALUE, Integer.MAX_VALUE};
        for (int ring : rings) {
            Check.thrown("ring(" + ring + ", 0)", Check.INDEX, () -> x.ring(ring, 0));
            Check.thrown("ring(" + ring + ", 7)", Check.INDEX, () -> x.ring(ring, 7));
        }
        int[] whats = {-1, 7, Integer.MIN_VALUE, Integer.MAX_VALUE};
        for (int what : whats) {
            Check.thrown("ring(0, " + what + ")", Check.ARGUMENT, () -> x.ring(0, what));
        }
        Check.due("balance(0)", x.balance(0), -10);
        Check.due("owes(1, 0)", x.owes(1, 0), 0);
    }

    /** Of rings of the same size the one whose numbers come first, from the first on. */
    private static void lowestFirst() {
        Mutualledger x = Check.circle(5);
        x.trade(0, 1, 10);
        x.trade(1, 4, 10);
        x.trade(4, 0, 20);
        x.trade(0, 3, 5);
        x.trade(3, 4, 7);
        x.trade(2, 3, 3);
        x.trade(4, 2, 3);
        x.night(1);
        Check.due("rings()", x.rings(), 3);
        Check.same("the first ring", Check.ring(x, 0), "3 10 0 1 4 -1 -1");
        Check.same("the second ring", Check.ring(x, 1), "3 5 0 3 4 -1 -1");
        Check.same("the third ring", Check.ring(x, 2), "3 2 2 3 4 -1 -1");
        Check.due("owes(4, 0)", x.owes(4, 0), 5);
        Check.due("owes(4, 2)", x.owes(4, 2), 1);
        Check.due("owes(2, 3)", x.owes(2, 3), 1);
        Check.due("owes(3, 4)", x.owes(3, 4), 0);
    }

    /** Both ways round among three: pairs come first, then the way that is left. */
    private static void pairsAheadOfThree() {
        Mutualledger x = Check.circle(3);
        x.trade(0, 1, 5);
        x.trade(1, 0, 9);
        x.trade(1, 2, 5);
        x.trade(2, 1, 9);
        x.trade(0, 2, 9);
        x.trade(2, 0, 5);
        x.night(1);
        Check.due("rings()", x.rings(), 4);
        Check.same("ring 0", Check.ring(x, 0), "2 5 0 1 -1 -1 -1");
        Check.same("ring 1", Check.ring(x, 1), "2 5 0 2 -1 -1 -1");
        Check.same("ring 2", Check.ring(x, 2), "2 5 1 2 -1 -1 -1");
        Check.same("ring 3", Check.ring(x, 3), "3 4 0 2 1 -1 -1");
        Check.due("balance(0)", x.balance(0), 0);
    }

    /** A ring of five is netted, one of six is none. */
    private static void longest() {
        for (int size = 2; size <= 8; size++) {
            Mutualledger x = Check.circle(8);
            int[] row = {1, 7, 3, 6, 2, 5, 4, 0};
            for (int i = 0; i < size; i++) {
                x.trade(row[i], row[(i + 1) % size], 10 + i);
            }
            x.night(1);
            Check.due("rings() with a row of " + size, x.rings(), size <= 5 ? 1 : 0);
            Check.due("owes(1, 7)", x.owes(1, 7), size <= 5 ? 0 : 10);
            if (size == 5) {
                Check.same("the ring of 5", Check.ring(x, 0), "5 10 1 7 3 6 2");
                Check.due("owes(2, 1)", x.owes(2, 1), 4);
            }
        }
    }

    /** A debt of 1 is enough, in every place of the ring. */
    private static void leastDebt() {
        for (int place = 0; place < 4; place++) {
            Mutualledger x = Check.circle(4);
            for (int i = 0; i < 4; i++) {
                x.trade(i, (i + 1) % 4, i == place ? 1 : 3);
            }
            x.night(1);
            Check.due("rings()", x.rings(), 1);
            Check.same("the ring", Check.ring(x, 0), "4 1 0 1 2 3 -1");
        }
    }

    /** What is frozen bars a ring, and narrows it. */
    private static void frozen() {
        Mutualledger x = Check.circle(3);
        x.trade(0, 1, 50);
        x.trade(0, 1, 6);
        x.trade(1, 2, 40);
        x.trade(2, 0, 30);
        x.dispute(0);
        x.night(1);
        Check.same("the ring", Check.ring(x, 0), "3 6 0 1 2 -1 -1");
        Check.due("owes(0, 1)", x.owes(0, 1), 50);
        x.night(1);
        Check.due("rings()", x.rings(), 0);
        x.settle(0, false);
        x.night(1);
        Check.same("the ring after the dispute", Check.ring(x, 0), "3 24 0 1 2 -1 -1");
        x.trade(2, 0, 5);
        x.night(2);
        Check.due("rings() of the second of two nights", x.rings(), 0);
        Check.due("owes(2, 0)", x.owes(2, 0), 0);
    }

    /** All shops owe to all: as many rings as there can be. */
    private static void many() {
        Mutualledger x = Check.circle(8);
        for (int i = 0; i < 8; i++) {
            for (int j = 0; j < 8; j++) {
                if (i != j) {
                    x.trade(i, j, 1 + (i * 7 + j * 3) % 10);
                }
            }
        }
        int[] before = new int[8];
        for (int i = 0; i < 8; i++) {
            before[i] = x.balance(i);
        }
        x.night(1);
        Check.due("at least the 28 pairs", x.rings() >= 28, true);
        for (int ring = 0; ring < 28; ring++) {
            Check.due("a pair first", x.ring(ring, 0), 2);
        }
        for (int i = 0; i < 8; i++) {
            Check.due("the balance stays", x.balance(i), before[i]);
        }
    }

    public static void main(String[] args) {
        none();
        shortestFirst();
        asked();
        lowestFirst();
        pairsAheadOfThree();
        longest();
        leastDebt();
        frozen();
        many();
        Check.end("RingsTest");
    }
}
