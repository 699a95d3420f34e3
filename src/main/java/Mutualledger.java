/**
 * A circle of shops that trade in credits: debts from shop to shop, limits that follow trade,
 * guarantees by friends, disputes that freeze, nights in which rings of debts are netted, the
 * shortest first, fees on idle sums, and shops that leave and are netted out through the others.
 */
public final class Mutualledger {
    /** None. */
    public static final int NONE = -1;
    /** What a trade is. */
    public static final int STANDS = 0, DISPUTED = 1, VOID = 2;

    private static final int MOST_SHOPS = 8;
    private static final int HOUSE = 8;
    private static final int PLACES = 9;
    private static final int MOST_TRADES = 100;
    private static final int MOST_AMOUNT = 1000;
    private static final int MOST_GUARANTEE_STEP = 500;
    private static final int MOST_GUARANTEE = 1000;
    private static final int MOST_THOUSANDTHS = 500;
    private static final int MOST_NIGHTS = 20;
    private static final int BASE_LIMIT = 500;
    private static final int LIMIT_DAYS = 10;
    private static final int IDLE_DAYS = 5;
    private static final int SHORTEST_RING = 2;
    private static final int LONGEST_RING = 5;
    // Each ring that is netted ends at least one of the 56 debts between shops, and starts none.
    private static final int MOST_RINGS = 56;

    private static final int HAS_LEFT = 0;
    private static final int OWN_GOODS = 1;
    private static final int SHOP_COLUMNS = 2;

    private final Table shops = new Table(MOST_SHOPS, SHOP_COLUMNS);
    private final Trades trades = new Trades();
    private final Debts debts = new Debts();
    private final Table guarantees = new Table(PLACES, PLACES);
    // What the one of the row gave up for the one of the column beside the trades: fees, what
    // guarantors paid, credits that are owed in goods. With the trades it tells every balance anew.
    private final Table givenUp = new Table(PLACES, PLACES);
    private final Rings rings = new Rings();
    private int joined = 0;
    private int today = 0;
    private int thousandths = 10;

    /** Creates a circle without shops on the day 0; the fee is 10 thousandths. */
    public Mutualledger() {
    }

    // ---- shops

    /**
     * Lets a shop join.
     *
     * @return its number
     * @throws IllegalStateException if there were 8
     */
    public int join() throws IllegalStateException {
        if (joined >= MOST_SHOPS) {
            throw new IllegalStateException("there were 8 shops");
        }
        joined++;
        return joined - 1;
    }

    /**
     * Lets a shop leave.
     *
     * @param shop the number of a shop
     * @return how many credits are owed in goods by that, by it or to it
     * @throws IndexOutOfBoundsException if there is no such shop
     * @throws IllegalStateException if a trade of it is DISPUTED
     */
    public int leave(int shop) throws IndexOutOfBoundsException, IllegalStateException {
        needShop(shop);
        if (trades.hasDisputedOf(shop)) {
            throw new IllegalStateException("a trade of the shop is disputed");
        }
        passDebtsThrough(shop);
        letGuarantorsPay(shop);
        int byIt = oweInGoodsBy(shop);
        int toIt = oweInGoodsTo(shop);
        guarantees.clearAllOf(shop);
        shops.set(shop, HAS_LEFT, 1);
        shops.set(shop, OWN_GOODS, byIt - toIt);
        return byIt + toIt;
    }

    // ---- trades and guarantees

    /**
     * Trades.
     *
     * @param buyer the number of a shop
     * @param seller the number of another shop
     * @param amount 1 to 1000
     * @return the number of the trade
     * @throws IndexOutOfBoundsException if there is no such shop, of either
     * @throws IllegalArgumentException if amount is out of range, or both are the same
     * @throws IllegalStateException if there are 100 trades, or the buyer can't bear the amount
     */
    public int trade(int buyer, int seller, int amount)
            throws IndexOutOfBoundsException, IllegalArgumentException, IllegalStateException {
        needShop(buyer);
        needShop(seller);
        needRange(amount, 1, MOST_AMOUNT);
        needUnlike(buyer, seller);
        if (trades.isFull()) {
            throw new IllegalStateException("there are 100 trades");
        }
        needBearable(buyer, amount);
        debts.more(buyer, seller, amount);
        return trades.put(buyer, seller, amount, today);
    }

    /**
     * Disputes a trade.
     *
     * @param trade the number of a trade
     * @return its frozen part
     * @throws IndexOutOfBoundsException if there is no such trade
     * @throws IllegalStateException if it does not stand, or its buyer or seller left
     */
    public int dispute(int trade) throws IndexOutOfBoundsException, IllegalStateException {
        needTrade(trade);
        int buyer = trades.of(trade, Trades.BUYER);
        int seller = trades.of(trade, Trades.SELLER);
        if (trades.of(trade, Trades.STATE) != STANDS || !isShop(buyer) || !isShop(seller)) {
            throw new IllegalStateException("the trade can't be disputed");
        }
        int part = Math.min(trades.of(trade, Trades.AMOUNT), debts.open(buyer, seller));
        debts.freeze(buyer, seller, part);
        trades.turn(trade, DISPUTED, part);
        return part;
    }

    /**
     * Settles the dispute about a trade.
     *
     * @param trade the number of a trade
     * @param isVoid whether it is VOID; otherwise it STANDS
     * @return what the seller owes more to the buyer by that
     * @throws IndexOutOfBoundsException if there is no such trade
     * @throws IllegalStateException if it is not DISPUTED
     */
    public int settle(int trade, boolean isVoid) throws IndexOutOfBoundsException, IllegalStateException {
        needTrade(trade);
        if (trades.of(trade, Trades.STATE) != DISPUTED) {
            throw new IllegalStateException("the trade is not disputed");
        }
        int buyer = trades.of(trade, Trades.BUYER);
        int seller = trades.of(trade, Trades.SELLER);
        int part = trades.of(trade, Trades.FROZEN_PART);
        debts.freeze(buyer, seller, -part);
        trades.turn(trade, isVoid ? VOID : STANDS, 0);
        if (!isVoid) {
            return 0;
        }
        int rest = trades.of(trade, Trades.AMOUNT) - part;
        debts.more(buyer, seller, -part);
        debts.more(seller, buyer, rest);
        return rest;
    }

    /**
     * Guarantees more for a shop.
     *
     * @param friend the number of a shop, which guarantees
     * @param shop the number of another shop
     * @param amount 1 to 500
     * @return what it guarantees for it then
     * @throws IndexOutOfBoundsException if there is no such shop, of either
     * @throws IllegalArgumentException if amount is out of range, or both are the same
     * @throws IllegalStateException if that would be above 1000, or the friend can't bear the amount
     */
    public int guarantee(int friend, int shop, int amount)
            throws IndexOutOfBoundsException, IllegalArgumentException, IllegalStateException {
        needGuaranteeArguments(friend, shop, amount);
        if (guarantees.get(friend, shop) + amount > MOST_GUARANTEE) {
            throw new IllegalStateException("the guarantee would be above 1000");
        }
        needBearable(friend, amount);
        guarantees.add(friend, shop, amount);
        return guarantees.get(friend, shop);
    }

    /**
     * Guarantees less for a shop.
     *
     * @param friend the number of a shop, which guarantees
     * @param shop the number of another shop
     * @param amount 1 to 500
     * @return what it guarantees for it then
     * @throws IndexOutOfBoundsException if there is no such shop, of either
     * @throws IllegalArgumentException if amount is out of range, or both are the same
     * @throws IllegalStateException if it guarantees less than that, or the shop can't bear the amount
     */
    public int revoke(int friend, int shop, int amount)
            throws IndexOutOfBoundsException, IllegalArgumentException, IllegalStateException {
        needGuaranteeArguments(friend, shop, amount);
        if (guarantees.get(friend, shop) < amount) {
            throw new IllegalStateException("less than that is guaranteed");
        }
        needBearable(shop, amount);
        guarantees.add(friend, shop, -amount);
        return guarantees.get(friend, shop);
    }

    // ---- nights

    /**
     * Sets the fee.
     *
     * @param thousandths 0 to 500
     * @return the thousandths before
     * @throws IllegalArgumentException if thousandths is out of range
     */
    public int fee(int thousandths) throws IllegalArgumentException {
        needRange(thousandths, 0, MOST_THOUSANDTHS);
        int before = this.thousandths;
        this.thousandths = thousandths;
        return before;
    }

    /**
     * Lets nights pass.
     *
     * @param nights 1 to 20
     * @return today
     * @throws IllegalArgumentException if nights is out of range
     */
    public int night(int nights) throws IllegalArgumentException {
        needRange(nights, 1, MOST_NIGHTS);
        for (int night = 0; night < nights && night < MOST_NIGHTS; night++) {
            rings.netAll(debts);
            payFees();
            today++;
        }
        return today;
    }

    // ---- what is asked; of shops that left as well, where it does not say otherwise

    /**
     * Returns the balance of a shop, or of the house; that of a shop that left is 0.
     *
     * @param shop the number of a shop, one that left, or 8
     * @return the balance
     * @throws IndexOutOfBoundsException if there was no such shop
     */
    public int balance(int shop) throws IndexOutOfBoundsException {
        needShopEverOrHouse(shop);
        return debts.balanceOf(shop);
    }

    /**
     * Returns the same, found from all trades that are not VOID, and from all fees, what
     * guarantors paid, and what was owed in goods.
     *
     * @param shop the number of a shop, one that left, or 8
     * @return the balance
     * @throws IndexOutOfBoundsException if there was no such shop
     */
    public int balanceAnew(int shop) throws IndexOutOfBoundsException {
        needShopEverOrHouse(shop);
        return trades.balanceOf(shop) + givenUp.columnSum(shop) - givenUp.rowSum(shop);
    }

    /**
     * Returns the limit of a shop.
     *
     * @param shop the number of a shop
     * @return the limit
     * @throws IndexOutOfBoundsException if there is no such shop
     */
    public int limit(int shop) throws IndexOutOfBoundsException {
        needShop(shop);
        return limitOf(shop);
    }

    /**
     * Returns what a shop owes to another one.
     *
     * @param shop the number of a shop, or one that left
     * @param other the number of a shop, one that left, or 8
     * @return what it owes
     * @throws IndexOutOfBoundsException if there was no such shop, of either
     */
    public int owes(int shop, int other) throws IndexOutOfBoundsException {
        needShopEver(shop);
        needShopEverOrHouse(other);
        return debts.owed(shop, other);
    }

    /**
     * Returns what of that is frozen.
     *
     * @param shop the number of a shop, or one that left
     * @param other the number of a shop, or one that left
     * @return what is frozen
     * @throws IndexOutOfBoundsException if there was no such shop, of either
     */
    public int frozen(int shop, int other) throws IndexOutOfBoundsException {
        needShopEver(shop);
        needShopEver(other);
        return debts.frozenPart(shop, other);
    }

    /**
     * Tells of a trade.
     *
     * @param trade the number of a trade
     * @param what 0 what it is, STANDS to VOID, 1 its buyer, 2 its seller, 3 its amount, 4 its day,
     *     5 its frozen part, 0 if it is not DISPUTED
     * @return as told
     * @throws IndexOutOfBoundsException if there is no such trade
     * @throws IllegalArgumentException if what is out of range
     */
    public int ofTrade(int trade, int what) throws IndexOutOfBoundsException, IllegalArgumentException {
        needTrade(trade);
        needRange(what, 0, Trades.COLUMNS - 1);
        return trades.of(trade, what);
    }

    /**
     * Returns what a shop guarantees for another one.
     *
     * @param friend the number of a shop, or one that left
     * @param shop the number of a shop, or one that left
     * @return what it guarantees
     * @throws IndexOutOfBoundsException if there was no such shop, of either
     */
    public int guaranteed(int friend, int shop) throws IndexOutOfBoundsException {
        needShopEver(friend);
        needShopEver(shop);
        return guarantees.get(friend, shop);
    }

    /**
     * Returns how many credits a shop that left owes in goods, less what is owed to it in goods,
     * both by its own leaving alone; 0 of others.
     *
     * @param shop the number of a shop, or one that left
     * @return as told
     * @throws IndexOutOfBoundsException if there was no such shop
     */
    public int goods(int shop) throws IndexOutOfBoundsException {
        needShopEver(shop);
        return shops.get(shop, OWN_GOODS);
    }

    /**
     * Tells whether a shop is idle.
     *
     * @param shop the number of a shop
     * @return whether it is idle
     * @throws IndexOutOfBoundsException if there is no such shop
     */
    public boolean isIdle(int shop) throws IndexOutOfBoundsException {
        needShop(shop);
        return isIdleShop(shop);
    }

    /**
     * Returns how many rings the latest night netted; 0 if there was none.
     *
     * @return the number of rings
     */
    public int rings() {
        return rings.size();
    }

    /**
     * Tells of a ring that the latest night netted.
     *
     * @param ring from 0 on, in the order in which they were
     * @param what 0 how many shops, 1 the amount by which each owes less, 2 to 6 its shops in their
     *     order, NONE if it has not so many
     * @return as told
     * @throws IndexOutOfBoundsException if there is no such ring
     * @throws IllegalArgumentException if what is out of range
     */
    public int ring(int ring, int what) throws IndexOutOfBoundsException, IllegalArgumentException {
        if (ring < 0 || ring >= rings.size()) {
            throw new IndexOutOfBoundsException("there is no such ring");
        }
        needRange(what, 0, Rings.COLUMNS - 1);
        return rings.of(ring, what);
    }

    // ---- what the calls need of their arguments

    private boolean wasShop(int shop) {
        return shop >= 0 && shop < joined;
    }

    private boolean isShop(int shop) {
        return wasShop(shop) && shops.get(shop, HAS_LEFT) == 0;
    }

    private void needShop(int shop) {
        if (!isShop(shop)) {
            throw new IndexOutOfBoundsException("there is no such shop");
        }
    }

    private void needShopEver(int shop) {
        if (!wasShop(shop)) {
            throw new IndexOutOfBoundsException("there was no such shop");
        }
    }

    private void needShopEverOrHouse(int shop) {
        if (shop != HOUSE) {
            needShopEver(shop);
        }
    }

    private void needTrade(int trade) {
        if (!trades.has(trade)) {
            throw new IndexOutOfBoundsException("there is no such trade");
        }
    }

    private static void needRange(int number, int least, int most) {
        if (number < least || number > most) {
            throw new IllegalArgumentException("a number is out of range");
        }
    }

    private static void needUnlike(int shop, int other) {
        if (shop == other) {
            throw new IllegalArgumentException("both shops are the same");
        }
    }

    private void needGuaranteeArguments(int friend, int shop, int amount) {
        needShop(friend);
        needShop(shop);
        needRange(amount, 1, MOST_GUARANTEE_STEP);
        needUnlike(friend, shop);
    }

    private void needBearable(int shop, int amount) {
        if (debts.balanceOf(shop) + limitOf(shop) - amount < 0) {
            throw new IllegalStateException("the balance and the limit are too low");
        }
    }

    private int limitOf(int shop) {
        int recent = trades.amountsSince(shop, today - LIMIT_DAYS + 1);
        return BASE_LIMIT + guarantees.columnSum(shop) - guarantees.rowSum(shop) + recent / 10;
    }

    // ---- fees

    private boolean isIdleShop(int shop) {
        return debts.balanceOf(shop) > 0 && !trades.hasSince(shop, today - IDLE_DAYS + 1);
    }

    private void payFees() {
        for (int shop = 0; shop < MOST_SHOPS; shop++) {
            if (isIdleShop(shop)) {
                payFee(shop);
            }
        }
    }

    private void payFee(int shop) {
        int due = debts.balanceOf(shop) * thousandths / 1000;
        int rest = Math.min(due, debts.openTo(shop));
        // A debtor that was called on owes nothing open any more, or all is paid: a turn each.
        for (int turn = 0; turn < MOST_SHOPS && rest > 0; turn++) {
            int debtor = debts.greatestOpenDebtorOf(shop);
            int part = Math.min(rest, debts.open(debtor, shop));
            debts.more(debtor, shop, -part);
            debts.more(debtor, HOUSE, part);
            givenUp.add(shop, HOUSE, part);
            rest -= part;
        }
    }

    // ---- leaving; a shop that leaves has no disputed trade, so nothing of its debts is frozen

    // By rising debtors and, for each, rising creditors: the same order as the lowest of both in
    // each step, since each step ends one of its two debts.
    private void passDebtsThrough(int shop) {
        for (int debtor = 0; debtor < MOST_SHOPS; debtor++) {
            for (int creditor = 0; creditor < PLACES; creditor++) {
                int amount = Math.min(debts.owed(debtor, shop), debts.owed(shop, creditor));
                debts.more(debtor, shop, -amount);
                takeOver(debtor, shop, creditor, amount);
            }
        }
    }

    private void letGuarantorsPay(int shop) {
        for (int creditor = 0; creditor < PLACES; creditor++) {
            for (int guarantor = 0; guarantor < MOST_SHOPS; guarantor++) {
                int amount = Math.min(debts.owed(shop, creditor), guarantees.get(guarantor, shop));
                guarantees.add(guarantor, shop, -amount);
                givenUp.add(guarantor, shop, amount);
                takeOver(guarantor, shop, creditor, amount);
            }
        }
    }

    // None owes to itself: who takes over what is owed to it owes nothing by that.
    private void takeOver(int taker, int shop, int creditor, int amount) {
        debts.more(shop, creditor, -amount);
        if (taker != creditor) {
            debts.more(taker, creditor, amount);
        }
    }

    private int oweInGoodsBy(int shop) {
        int goods = 0;
        for (int creditor = 0; creditor < PLACES; creditor++) {
            int amount = debts.owed(shop, creditor);
            debts.more(shop, creditor, -amount);
            givenUp.add(creditor, shop, amount);
            goods += amount;
        }
        return goods;
    }

    private int oweInGoodsTo(int shop) {
        int goods = 0;
        for (int debtor = 0; debtor < MOST_SHOPS; debtor++) {
            int amount = debts.owed(debtor, shop);
            debts.more(debtor, shop, -amount);
            givenUp.add(shop, debtor, amount);
            goods += amount;
        }
        return goods;
    }

    /** Numbers in rows and columns. A place outside holds 0 and takes nothing: no index can fail. */
    private static final class Table {
        private static final int MOST_ROWS = 100;
        private static final int MOST_COLUMNS = 9;

        private final int rows;
        private final int columns;
        private final int[] cells;

        Table(int rows, int columns) {
            this.rows = Math.max(0, Math.min(rows, MOST_ROWS));
            this.columns = Math.max(0, Math.min(columns, MOST_COLUMNS));
            this.cells = new int[this.rows * this.columns];
        }

        private int placeOf(int row, int column) {
            boolean isInside = row >= 0 && row < rows && column >= 0 && column < columns;
            return isInside ? row * columns + column : NONE;
        }

        int get(int row, int column) {
            int place = placeOf(row, column);
            return place >= 0 && place < cells.length ? cells[place] : 0;
        }

        void set(int row, int column, int number) {
            int place = placeOf(row, column);
            if (place >= 0 && place < cells.length) {
                cells[place] = number;
            }
        }

        void add(int row, int column, int number) {
            set(row, column, get(row, column) + number);
        }

        int rowSum(int row) {
            int sum = 0;
            for (int column = 0; column < columns; column++) {
                sum += get(row, column);
            }
            return sum;
        }

        int columnSum(int column) {
            int sum = 0;
            for (int row = 0; row < rows; row++) {
                sum += get(row, column);
            }
            return sum;
        }

        void clearAllOf(int shop) {
            for (int other = 0; other < PLACES; other++) {
                set(shop, other, 0);
                set(other, shop, 0);
            }
        }
    }

    /** What each one of a row owes to each one of a column, and what of that is frozen. */
    private static final class Debts {
        private final Table owed = new Table(PLACES, PLACES);
        private final Table frozenParts = new Table(PLACES, PLACES);

        int owed(int debtor, int creditor) {
            return owed.get(debtor, creditor);
        }

        int frozenPart(int debtor, int creditor) {
            return frozenParts.get(debtor, creditor);
        }

        /** What is owed and not frozen. */
        int open(int debtor, int creditor) {
            return owed.get(debtor, creditor) - frozenParts.get(debtor, creditor);
        }

        int openTo(int creditor) {
            return owed.columnSum(creditor) - frozenParts.columnSum(creditor);
        }

        void more(int debtor, int creditor, int amount) {
            owed.add(debtor, creditor, amount);
        }

        void freeze(int debtor, int creditor, int amount) {
            frozenParts.add(debtor, creditor, amount);
        }

        int balanceOf(int shop) {
            return owed.columnSum(shop) - owed.rowSum(shop);
        }

        int greatestOpenDebtorOf(int shop) {
            int greatest = 0;
            for (int debtor = 1; debtor < MOST_SHOPS; debtor++) {
                if (open(debtor, shop) > open(greatest, shop)) {
                    greatest = debtor;
                }
            }
            return greatest;
        }
    }

    /** The trades, a row each, the columns as ofTrade tells them. */
    private static final class Trades {
        static final int STATE = 0;
        static final int BUYER = 1;
        static final int SELLER = 2;
        static final int AMOUNT = 3;
        static final int DAY = 4;
        static final int FROZEN_PART = 5;
        static final int COLUMNS = 6;

        private final Table rows = new Table(MOST_TRADES, COLUMNS);
        private int count = 0;

        boolean isFull() {
            return count >= MOST_TRADES;
        }

        boolean has(int trade) {
            return trade >= 0 && trade < count;
        }

        int of(int trade, int what) {
            return rows.get(trade, what);
        }

        int put(int buyer, int seller, int amount, int day) {
            int trade = count;
            rows.set(trade, STATE, STANDS);
            rows.set(trade, BUYER, buyer);
            rows.set(trade, SELLER, seller);
            rows.set(trade, AMOUNT, amount);
            rows.set(trade, DAY, day);
            count++;
            return trade;
        }

        void turn(int trade, int state, int frozenPart) {
            rows.set(trade, STATE, state);
            rows.set(trade, FROZEN_PART, frozenPart);
        }

        private boolean isOf(int trade, int shop) {
            return of(trade, BUYER) == shop || of(trade, SELLER) == shop;
        }

        boolean hasDisputedOf(int shop) {
            for (int trade = 0; trade < count; trade++) {
                if (isOf(trade, shop) && of(trade, STATE) == DISPUTED) {
                    return true;
                }
            }
            return false;
        }

        boolean hasSince(int shop, int firstDay) {
            for (int trade = 0; trade < count; trade++) {
                if (isOf(trade, shop) && of(trade, DAY) >= firstDay) {
                    return true;
                }
            }
            return false;
        }

        /** The amounts of the trades of a shop that are not VOID, from a day on. */
        int amountsSince(int shop, int firstDay) {
            int sum = 0;
            for (int trade = 0; trade < count; trade++) {
                boolean counts = isOf(trade, shop) && of(trade, STATE) != VOID;
                if (counts && of(trade, DAY) >= firstDay) {
                    sum += of(trade, AMOUNT);
                }
            }
            return sum;
        }

        /** What a shop sold, less what it bought, by the trades that are not VOID. */
        int balanceOf(int shop) {
            int sum = 0;
            for (int trade = 0; trade < count; trade++) {
                if (of(trade, STATE) != VOID && of(trade, SELLER) == shop) {
                    sum += of(trade, AMOUNT);
                }
                if (of(trade, STATE) != VOID && of(trade, BUYER) == shop) {
                    sum -= of(trade, AMOUNT);
                }
            }
            return sum;
        }
    }

    /** The rings of the latest night, a row each, the columns as ring tells them. */
    private static final class Rings {
        private static final int SIZE = 0;
        private static final int LESS_BY = 1;
        private static final int FIRST_SHOP = 2;
        static final int COLUMNS = 7;

        // The row behind the last ring is where the next one is looked for.
        private final Table rows = new Table(MOST_RINGS + 1, COLUMNS);
        private int count = 0;

        int size() {
            return count;
        }

        int of(int ring, int what) {
            return rows.get(ring, what);
        }

        void netAll(Debts debts) {
            count = 0;
            for (int turn = 0; turn < MOST_RINGS && find(debts); turn++) {
                net(debts);
                count++;
            }
        }

        /** The shop at a place of the ring that is looked for. */
        private int shopAt(int place) {
            return rows.get(count, FIRST_SHOP + place);
        }

        private void setShopAt(int place, int shop) {
            rows.set(count, FIRST_SHOP + place, shop);
        }

        private boolean find(Debts debts) {
            for (int size = SHORTEST_RING; size <= LONGEST_RING; size++) {
                rows.set(count, SIZE, size);
                for (int first = 0; first < MOST_SHOPS; first++) {
                    setShopAt(0, first);
                    if (closes(this, debts, size, 1)) {
                        return true;
                    }
                }
            }
            return false;
        }

        /** Whether the shops set so far, as many as length, can be made a ring; if so it is set. */
        private static boolean closes(Rings rings, Debts debts, int size, int length) {
            int first = rings.shopAt(0);
            int last = rings.shopAt(length - 1);
            if (length >= size || length >= LONGEST_RING) {
                return debts.open(last, first) > 0;
            }
            for (int next = first + 1; next < MOST_SHOPS; next++) {
                if (debts.open(last, next) > 0 && !rings.isSet(next, length)) {
                    rings.setShopAt(length, next);
                    if (closes(rings, debts, size, length + 1)) {
                        return true;
                    }
                }
            }
            return false;
        }

        private boolean isSet(int shop, int length) {
            for (int place = 0; place < length; place++) {
                if (rows.get(count, FIRST_SHOP + place) == shop) {
                    return true;
                }
            }
            return false;
        }

        private void net(Debts debts) {
            int size = rows.get(count, SIZE);
            int least = debts.open(shopAt(size - 1), shopAt(0));
            for (int place = 1; place < size; place++) {
                least = Math.min(least, debts.open(shopAt(place - 1), shopAt(place)));
            }
            debts.more(shopAt(size - 1), shopAt(0), -least);
            for (int place = 1; place < size; place++) {
                debts.more(shopAt(place - 1), shopAt(place), -least);
            }
            rows.set(count, LESS_BY, least);
            for (int place = size; place < LONGEST_RING; place++) {
                setShopAt(place, NONE);
            }
        }
    }
}
