import java.util.ArrayList;
import java.util.Comparator;
import java.util.List;
import java.util.TreeMap;

/**
 * The document told again, step by step and in its own words as far as can be, to hold the program
 * against. It shares no way of working with it: debts in a map, rings by trying every row of shops,
 * balances anew from a list of all that was ever paid. Exceptions are answered as the texts I
 * (IndexOutOfBounds), A (IllegalArgument) and S (IllegalState).
 */
final class Model {
    private static final class Trade {
        int buyer;
        int seller;
        int amount;
        int day;
        int is;
        int frozenPart;
    }

    private record Paid(int by, int to, int amount) {
    }

    private final List<Trade> trades = new ArrayList<>();
    private final TreeMap<Integer, Integer> owed = new TreeMap<>();
    private final TreeMap<Integer, Integer> guarantees = new TreeMap<>();
    private final List<Paid> paid = new ArrayList<>();
    private final List<Integer> left = new ArrayList<>();
    private final int[] goods = new int[8];
    private final List<int[]> rings = new ArrayList<>();
    private int joined = 0;
    private int today = 0;
    private int fee = 10;

    private static int key(int a, int b) {
        return a * 10 + b;
    }

    private int debt(int a, int b) {
        return owed.getOrDefault(key(a, b), 0);
    }

    private void owe(int a, int b, int more) {
        if (a != b) {
            owed.merge(key(a, b), more, Integer::sum);
        }
    }

    private int ice(int a, int b) {
        int sum = 0;
        for (Trade t : trades) {
            if (t.is == 1 && t.buyer == a && t.seller == b) {
                sum += t.frozenPart;
            }
        }
        return sum;
    }

    private int open(int a, int b) {
        return debt(a, b) - ice(a, b);
    }

    private int worth(int shop) {
        int sum = 0;
        for (int other = 0; other <= 8; other++) {
            sum += debt(other, shop) - debt(shop, other);
        }
        return sum;
    }

    private int bond(int a, int b) {
        return guarantees.getOrDefault(key(a, b), 0);
    }

    private boolean in(int shop) {
        return was(shop) && !left.contains(shop);
    }

    private boolean was(int shop) {
        return 0 <= shop && shop < joined;
    }

    private int bound(int shop) {
        int tenth = 0;
        for (Trade t : trades) {
            if (t.is != 2 && (t.buyer == shop || t.seller == shop) && today - t.day <= 9) {
                tenth += t.amount;
            }
        }
        int sum = 500 + tenth / 10;
        for (int other = 0; other < 8; other++) {
            sum += bond(other, shop) - bond(shop, other);
        }
        return sum;
    }

    private boolean idle(int shop) {
        if (worth(shop) <= 0) {
            return false;
        }
        for (Trade t : trades) {
            if ((t.buyer == shop || t.seller == shop) && today - t.day <= 4) {
                return false;
            }
        }
        return true;
    }

    String join() {
        if (joined == 8) {
            return "S";
        }
        return "" + joined++;
    }

    String trade(int buyer, int seller, int amount) {
        if (!in(buyer) || !in(seller)) {
            return "I";
        }
        if (amount < 1 || amount > 1000 || buyer == seller) {
            return "A";
        }
        if (trades.size() == 100 || worth(buyer) + bound(buyer) - amount < 0) {
            return "S";
        }
        Trade t = new Trade();
        t.buyer = buyer;
        t.seller = seller;
        t.amount = amount;
        t.day = today;
        trades.add(t);
        owe(buyer, seller, amount);
        return "" + (trades.size() - 1);
    }

    String dispute(int trade) {
        if (trade < 0 || trade >= trades.size()) {
            return "I";
        }
        Trade t = trades.get(trade);
        if (t.is != 0 || !in(t.buyer) || !in(t.seller)) {
            return "S";
        }
        t.frozenPart = Math.min(t.amount, open(t.buyer, t.seller));
        t.is = 1;
        return "" + t.frozenPart;
    }

    String settle(int trade, boolean isVoid) {
        if (trade < 0 || trade >= trades.size()) {
            return "I";
        }
        Trade t = trades.get(trade);
        if (t.is != 1) {
            return "S";
        }
        int part = t.frozenPart;
        t.frozenPart = 0;
        t.is = isVoid ? 2 : 0;
        if (!isVoid) {
            return "0";
        }
        owe(t.buyer, t.seller, -part);
        owe(t.seller, t.buyer, t.amount - part);
        return "" + (t.amount - part);
    }

    String guarantee(int friend, int shop, int amount) {
        if (!in(friend) || !in(shop)) {
            return "I";
        }
        if (amount < 1 || amount > 500 || friend == shop) {
            return "A";
        }
        if (bond(friend, shop) + amount > 1000 || worth(friend) + bound(friend) - amount < 0) {
            return "S";
        }
        guarantees.merge(key(friend, shop), amount, Integer::sum);
        return "" + bond(friend, shop);
    }

    String revoke(int friend, int shop, int amount) {
        if (!in(friend) || !in(shop)) {
            return "I";
        }
        if (amount < 1 || amount > 500 || friend == shop) {
            return "A";
        }
        if (bond(friend, shop) < amount || worth(shop) + bound(shop) - amount < 0) {
            return "S";
        }
        guarantees.merge(key(friend, shop), -amount, Integer::sum);
        return "" + bond(friend, shop);
    }

    String fee(int thousandths) {
        if (thousandths < 0 || thousandths > 500) {
            return "A";
        }
        int before = fee;
        fee = thousandths;
        return "" + before;
    }

    String night(int nights) {
        if (nights < 1 || nights > 20) {
            return "A";
        }
        for (int i = 0; i < nights; i++) {
            rings.clear();
            for (int[] ring = bestRing(); ring != null; ring = bestRing()) {
                int n = ring.length;
                int least = Integer.MAX_VALUE;
                for (int k = 0; k < n; k++) {
                    least = Math.min(least, open(ring[k], ring[(k + 1) % n]));
                }
                int[] told = {n, least, -1, -1, -1, -1, -1};
                for (int k = 0; k < n; k++) {
                    owe(ring[k], ring[(k + 1) % n], -least);
                    told[2 + k] = ring[k];
                }
                rings.add(told);
            }
            List<Integer> payers = new ArrayList<>();
            for (int shop = 0; shop < 8; shop++) {
                if (idle(shop)) {
                    payers.add(shop);
                }
            }
            for (int shop : payers) {
                pay(shop);
            }
            today++;
        }
        return "" + today;
    }

    /** Every row of unlike shops of each size, by rising numbers read as figures of one number. */
    private int[] bestRing() {
        for (int size = 2; size <= 5; size++) {
            int rows = 1 << 3 * size;
            for (int row = 0; row < rows; row++) {
                int[] ring = new int[size];
                for (int k = 0; k < size; k++) {
                    ring[k] = row >> 3 * (size - 1 - k) & 7;
                }
                if (isRing(ring)) {
                    return ring;
                }
                // no row that begins so can be a ring
                if (open(ring[0], ring[1]) <= 0) {
                    row |= (1 << 3 * (size - 2)) - 1;
                }
            }
        }
        return null;
    }

    private boolean isRing(int[] ring) {
        int seen = 0;
        for (int k = 0; k < ring.length; k++) {
            if (ring[k] < ring[0] || (seen >> ring[k] & 1) == 1) {
                return false;
            }
            seen |= 1 << ring[k];
        }
        for (int k = 0; k < ring.length; k++) {
            if (open(ring[k], ring[(k + 1) % ring.length]) <= 0) {
                return false;
            }
        }
        return true;
    }

    private void pay(int shop) {
        List<Integer> debtors = new ArrayList<>();
        int all = 0;
        for (int other = 0; other < 8; other++) {
            debtors.add(other);
            all += open(other, shop);
        }
        debtors.sort(Comparator.comparingInt((Integer d) -> -open(d, shop)).thenComparingInt(d -> d));
        int rest = Math.min((int) ((long) worth(shop) * fee / 1000), all);
        for (int debtor : debtors) {
            int part = Math.min(rest, open(debtor, shop));
            owe(debtor, shop, -part);
            owe(debtor, 8, part);
            paid.add(new Paid(shop, 8, part));
            rest -= part;
        }
    }

    private int lowestDebtor(int shop) {
        for (int other = 0; other < 8; other++) {
            if (debt(other, shop) > 0) {
                return other;
            }
        }
        return -1;
    }

    private int lowestCreditor(int shop) {
        for (int other = 0; other <= 8; other++) {
            if (debt(shop, other) > 0) {
                return other;
            }
        }
        return -1;
    }

    String leave(int shop) {
        if (!in(shop)) {
            return "I";
        }
        for (Trade t : trades) {
            if (t.is == 1 && (t.buyer == shop || t.seller == shop)) {
                return "S";
            }
        }
        while (lowestDebtor(shop) >= 0 && lowestCreditor(shop) >= 0) {
            int d = lowestDebtor(shop);
            int c = lowestCreditor(shop);
            int amount = Math.min(debt(d, shop), debt(shop, c));
            owe(d, shop, -amount);
            owe(shop, c, -amount);
            owe(d, c, amount);
        }
        int inGoods = 0;
        for (int c = 0; c <= 8; c++) {
            for (int g = 0; g < 8 && debt(shop, c) > 0; g++) {
                int amount = Math.min(bond(g, shop), debt(shop, c));
                guarantees.merge(key(g, shop), -amount, Integer::sum);
                owe(shop, c, -amount);
                owe(g, c, amount);
                paid.add(new Paid(g, shop, amount));
            }
            int amount = debt(shop, c);
            owe(shop, c, -amount);
            paid.add(new Paid(c, shop, amount));
            goods[shop] += amount;
            inGoods += amount;
        }
        for (int d = 0; d < 8; d++) {
            int amount = debt(d, shop);
            owe(d, shop, -amount);
            paid.add(new Paid(shop, d, amount));
            goods[shop] -= amount;
            inGoods += amount;
        }
        for (int other = 0; other < 8; other++) {
            guarantees.remove(key(shop, other));
            guarantees.remove(key(other, shop));
        }
        left.add(shop);
        return "" + inGoods;
    }

    String balance(int shop) {
        return was(shop) || shop == 8 ? "" + worth(shop) : "I";
    }

    String balanceAnew(int shop) {
        if (!was(shop) && shop != 8) {
            return "I";
        }
        int sum = 0;
        for (Trade t : trades) {
            if (t.is != 2) {
                sum += t.seller == shop ? t.amount : t.buyer == shop ? -t.amount : 0;
            }
        }
        for (Paid p : paid) {
            sum += p.to == shop ? p.amount : 0;
            sum -= p.by == shop ? p.amount : 0;
        }
        return "" + sum;
    }

    String limit(int shop) {
        return in(shop) ? "" + bound(shop) : "I";
    }

    String owes(int shop, int other) {
        return was(shop) && (was(other) || other == 8) ? "" + debt(shop, other) : "I";
    }

    String frozen(int shop, int other) {
        return was(shop) && was(other) ? "" + ice(shop, other) : "I";
    }

    String ofTrade(int trade, int what) {
        if (trade < 0 || trade >= trades.size()) {
            return "I";
        }
        if (what < 0 || what > 5) {
            return "A";
        }
        Trade t = trades.get(trade);
        return "" + new int[] {t.is, t.buyer, t.seller, t.amount, t.day, t.frozenPart}[what];
    }

    String guaranteed(int friend, int shop) {
        return was(friend) && was(shop) ? "" + bond(friend, shop) : "I";
    }

    String goods(int shop) {
        return was(shop) ? "" + goods[shop] : "I";
    }

    String isIdle(int shop) {
        return in(shop) ? idle(shop) ? "1" : "0" : "I";
    }

    String rings() {
        return "" + rings.size();
    }

    String ring(int ring, int what) {
        if (ring < 0 || ring >= rings.size()) {
            return "I";
        }
        return what < 0 || what > 6 ? "A" : "" + rings.get(ring)[what];
    }
}
