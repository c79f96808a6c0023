/**
 * An inventory valuation: stock by first in first out and by moving average,
 * with landed costs, revaluations and back-dated movements.
 *
 * <p>Nothing is valued when a movement is posted: each question replays the
 * ledger for its item, because a back-dated movement can change every later
 * figure.
 */
public final class Layerbook {
    public static final int RECEIPT = 0, ISSUE = 1, REVALUATION = 2, LANDED_COST = 3;
    public static final int BY_QUANTITY = 0, BY_COST = 1, BY_WEIGHT = 2;
    public static final int NONE = -1;

    private static final int MOST_MOVEMENTS = 60;
    private static final int LAST_DAY = 364;
    private static final int LAST_ITEM = 5;
    private static final int MOST_UNITS = 1000;
    private static final int MOST_CENTS = 1000000;
    private static final int MOST_WEIGHT = 100;

    private final Movement[] posted;
    private final Ledger ledger;
    private final FirstInFirstOut fifo;
    private final MovingAverage average;
    private final int[] weights;
    private int count;
    private int closedUpTo;

    public Layerbook() {
        posted = new Movement[MOST_MOVEMENTS];
        ledger = new Ledger();
        fifo = new FirstInFirstOut();
        average = new MovingAverage();
        weights = new int[LAST_ITEM + 1];
        for (int item = 0; item < weights.length; item++) {
            weights[item] = 1;
        }
        closedUpTo = NONE;
    }

    // ---- movements

    public int receive(int day, int item, int quantity, int cost)
            throws IllegalArgumentException, IllegalStateException {
        checkItemAndDay(item, day);
        checkRange(quantity, 1, MOST_UNITS);
        checkRange(cost, 0, MOST_CENTS);
        checkPosting(day);
        return post(new Movement(count, RECEIPT, day, item, quantity, cost));
    }

    public int issue(int day, int item, int quantity)
            throws IllegalArgumentException, IllegalStateException {
        checkItemAndDay(item, day);
        checkRange(quantity, 1, MOST_UNITS);
        checkPosting(day);
        checkOnHand(quantity, ledger.spare(item, day, MOST_MOVEMENTS));
        return post(new Movement(count, ISSUE, day, item, quantity, 0));
    }

    public int revalue(int day, int item, int quantity, int cost)
            throws IllegalArgumentException, IllegalStateException {
        checkItemAndDay(item, day);
        checkRange(quantity, 1, MOST_UNITS);
        checkRange(cost, 0, MOST_CENTS);
        checkPosting(day);
        // It leaves the quantity as it is, so nothing behind it can become invalid.
        checkOnHand(quantity, ledger.units(item, day));
        return post(new Movement(count, REVALUATION, day, item, quantity, cost));
    }

    public int land(int day, int amount, int basis, long receipts)
            throws IllegalArgumentException, IndexOutOfBoundsException, IllegalStateException {
        checkRange(day, 0, LAST_DAY);
        checkRange(amount, 1, MOST_CENTS);
        checkRange(basis, BY_QUANTITY, BY_WEIGHT);
        if (receipts == 0) {
            throw new IllegalArgumentException("no receipts");
        }
        if (receipts >>> count != 0) {
            throw new IndexOutOfBoundsException("a bit stands for no movement");
        }
        checkPosting(day);
        checkReceipts(receipts, day);
        long sum = sumOfBasis(receipts, basis);
        if (sum <= 0) {
            throw new IllegalStateException("nothing to spread by");
        }
        Movement landed = new Movement(count, LANDED_COST, day, NONE, 0, amount);
        landed.shares = spread(amount, basis, receipts, sum);
        return post(landed);
    }

    public int cancel(int movement) throws IndexOutOfBoundsException, IllegalStateException {
        Movement gone = find(movement);
        if (gone.cancelled) {
            throw new IllegalStateException("cancelled already");
        }
        checkOpen(gone.day);
        if (gone.kind == RECEIPT) {
            checkDispensable(gone);
        }
        gone.cancelled = true;
        ledger.remove(gone);
        return ledger.size;
    }

    public int close(int day) throws IllegalArgumentException, IllegalStateException {
        checkRange(day, 0, LAST_DAY);
        checkOpen(day);
        int before = closedUpTo;
        closedUpTo = day;
        return before;
    }

    public int setWeight(int item, int weight) throws IllegalArgumentException {
        checkRange(item, 0, LAST_ITEM);
        checkRange(weight, 1, MOST_WEIGHT);
        int before = weightOf(item);
        if (item >= 0 && item < weights.length) {
            weights[item] = weight;
        }
        return before;
    }

    // ---- what was posted

    public int movements() {
        return count;
    }

    public int kindOf(int movement) throws IndexOutOfBoundsException {
        return find(movement).kind;
    }

    public int dayOf(int movement) throws IndexOutOfBoundsException {
        return find(movement).day;
    }

    public boolean isCancelled(int movement) throws IndexOutOfBoundsException {
        return find(movement).cancelled;
    }

    public int placeOf(int movement) throws IndexOutOfBoundsException {
        Movement asked = find(movement);
        return asked.cancelled ? NONE : ledger.place(asked);
    }

    public int partOf(int landedCost, int receipt)
            throws IndexOutOfBoundsException, IllegalStateException {
        Movement landed = find(landedCost);
        Movement asked = find(receipt);
        if (landed.kind != LANDED_COST) {
            throw new IllegalStateException("no landed cost");
        }
        Share share = landed.shareOf(asked);
        return share == null ? 0 : share.part;
    }

    public long costOf(int issue, boolean byAverage)
            throws IndexOutOfBoundsException, IllegalStateException {
        Movement asked = find(issue);
        if (asked.kind != ISSUE || asked.cancelled) {
            throw new IllegalStateException("no issue of the ledger");
        }
        replayed(asked.item, asked.day, byAverage);
        return asked.taken;
    }

    // ---- an item at the end of a day

    public int onHand(int item, int day) throws IllegalArgumentException {
        checkItemAndDay(item, day);
        return ledger.units(item, day);
    }

    public int available(int item, int day) throws IllegalArgumentException {
        checkItemAndDay(item, day);
        return Math.min(ledger.spare(item, day, MOST_MOVEMENTS), MOST_UNITS);
    }

    public long value(int item, int day, boolean byAverage) throws IllegalArgumentException {
        checkItemAndDay(item, day);
        return replayed(item, day, byAverage).worth();
    }

    public long received(int item, int day) throws IllegalArgumentException {
        checkItemAndDay(item, day);
        return replayed(item, day, true).received;
    }

    public long issued(int item, int day, boolean byAverage) throws IllegalArgumentException {
        checkItemAndDay(item, day);
        return replayed(item, day, byAverage).issued;
    }

    public long revalued(int item, int day, boolean byAverage) throws IllegalArgumentException {
        checkItemAndDay(item, day);
        return replayed(item, day, byAverage).revalued;
    }

    public long expensed(int item, int day, boolean byAverage) throws IllegalArgumentException {
        checkItemAndDay(item, day);
        return replayed(item, day, byAverage).expensed;
    }

    public int layers(int item, int day) throws IllegalArgumentException {
        checkItemAndDay(item, day);
        fifo.replay(ledger.first, item, day);
        return fifo.length();
    }

    public int layerQuantity(int item, int day, int layer)
            throws IllegalArgumentException, IndexOutOfBoundsException {
        return findLayer(item, day, layer).units;
    }

    public long layerCost(int item, int day, int layer)
            throws IllegalArgumentException, IndexOutOfBoundsException {
        return findLayer(item, day, layer).cost;
    }

    public int layerOrigin(int item, int day, int layer)
            throws IllegalArgumentException, IndexOutOfBoundsException {
        return findLayer(item, day, layer).origin;
    }

    // ---- what the calls demand

    private static void checkRange(int number, int least, int most) {
        if (number < least || number > most) {
            throw new IllegalArgumentException("out of range");
        }
    }

    private static void checkItemAndDay(int item, int day) {
        checkRange(item, 0, LAST_ITEM);
        checkRange(day, 0, LAST_DAY);
    }

    private void checkOpen(int day) {
        if (day <= closedUpTo) {
            throw new IllegalStateException("the books are closed for the day");
        }
    }

    private void checkPosting(int day) {
        checkOpen(day);
        if (count >= MOST_MOVEMENTS) {
            throw new IllegalStateException("no more movements");
        }
    }

    private static void checkOnHand(int quantity, int units) {
        if (quantity > units) {
            throw new IllegalStateException("the ledger would be invalid");
        }
    }

    /** For landed costs: all that is chosen must be a receipt of the ledger, of that day or ahead of it. */
    private void checkReceipts(long receipts, int day) {
        for (int number = 0; number < MOST_MOVEMENTS; number++) {
            Movement chosen = chosen(receipts, number);
            if (chosen != null && (chosen.kind != RECEIPT || chosen.cancelled || chosen.day > day)) {
                throw new IllegalStateException("no receipt to spread over");
            }
        }
    }

    /** A receipt can go if nothing is spread over it, and if its quantity can be spared from its place on. */
    private void checkDispensable(Movement receipt) {
        if (ledger.spreadsOver(receipt)) {
            throw new IllegalStateException("a landed cost is spread over it");
        }
        checkOnHand(receipt.quantity, ledger.spare(receipt.item, receipt.day, receipt.number));
    }

    // ---- how it is done

    private Movement find(int number) {
        Movement found = number >= 0 && number < posted.length ? posted[number] : null;
        if (found == null) {
            throw new IndexOutOfBoundsException("there is no such movement");
        }
        return found;
    }

    private Layer findLayer(int item, int day, int index) {
        checkItemAndDay(item, day);
        fifo.replay(ledger.first, item, day);
        Layer found = fifo.layerAt(index);
        if (found == null) {
            throw new IndexOutOfBoundsException("there is no such layer");
        }
        return found;
    }

    private int post(Movement added) {
        if (count >= 0 && count < posted.length) {
            posted[count] = added;
            count++;
            ledger.insert(added);
        }
        return added.number;
    }

    private Valuation replayed(int item, int day, boolean byAverage) {
        Valuation valuation = byAverage ? average : fifo;
        valuation.replay(ledger.first, item, day);
        return valuation;
    }

    private int weightOf(int item) {
        return item >= 0 && item < weights.length ? weights[item] : 0;
    }

    /** The movement of that number if its bit is set, null if it is not. */
    private Movement chosen(long receipts, int number) {
        boolean set = number >= 0 && number < posted.length && (receipts >>> number & 1) == 1;
        return set ? posted[number] : null;
    }

    private long basisOf(Movement receipt, int basis) {
        if (basis == BY_COST) {
            return receipt.cost;
        }
        return basis == BY_WEIGHT ? receipt.quantity * weightOf(receipt.item) : receipt.quantity;
    }

    private long sumOfBasis(long receipts, int basis) {
        long sum = 0;
        for (int number = 0; number < MOST_MOVEMENTS; number++) {
            Movement receipt = chosen(receipts, number);
            if (receipt != null) {
                sum += basisOf(receipt, basis);
            }
        }
        return sum;
    }

    private Share spread(int amount, int basis, long receipts, long sum) {
        Share shares = null;
        int left = amount;
        // From the last one on, so that the chain begins with the least number.
        for (int number = MOST_MOVEMENTS - 1; number >= 0; number--) {
            Movement receipt = chosen(receipts, number);
            if (receipt != null && sum > 0) {
                long product = amount * basisOf(receipt, basis);
                shares = new Share(receipt, (int) (product / sum), product % sum, shares);
                left -= shares.part;
            }
        }
        for (int cent = 0; cent < left; cent++) {
            giveCent(shares);
        }
        return shares;
    }

    private static void giveCent(Share shares) {
        Share best = shares;
        for (Share share = shares; share != null; share = share.next) {
            if (best != null && share.remainder > best.remainder) {
                best = share;
            }
        }
        if (best != null) {
            best.part++;
            best.remainder = NONE;
        }
    }

    private static final class Movement {
        final int number;
        final int kind;
        final int day;
        final int item;
        final int quantity;
        final int cost;
        /** Kept from replay to replay, so that none makes objects; issues and landed costs leave it empty. */
        final Layer layer;
        boolean cancelled;
        /** The next one of the ledger. */
        Movement next;
        /** A landed cost's parts. */
        Share shares;
        /** The cost of an issue in the last replay that came by. */
        long taken;

        Movement(int number, int kind, int day, int item, int quantity, int cost) {
            this.number = number;
            this.kind = kind;
            this.day = day;
            this.item = item;
            this.quantity = quantity;
            this.cost = cost;
            this.layer = new Layer(number);
        }

        /** How the quantity on hand is other behind it than ahead of it. */
        int change() {
            if (kind == RECEIPT) {
                return quantity;
            }
            return kind == ISSUE ? -quantity : 0;
        }

        boolean needsUnits() {
            return kind == ISSUE || kind == REVALUATION;
        }

        boolean isBehind(int otherDay, int otherNumber) {
            return day > otherDay || day == otherDay && number > otherNumber;
        }

        Share shareOf(Movement receipt) {
            Share share = shares;
            while (share != null && share.receipt != receipt) {
                share = share.next;
            }
            return share;
        }
    }

    /** What a landed cost gives to one receipt. */
    private static final class Share {
        final Movement receipt;
        final Share next;
        int part;
        long remainder;

        Share(Movement receipt, int part, long remainder, Share next) {
            this.receipt = receipt;
            this.part = part;
            this.remainder = remainder;
            this.next = next;
        }
    }

    /** The movements that are not cancelled, a chain by day and number. */
    private static final class Ledger {
        Movement first;
        int size;

        /** The new one has the greatest number, so it goes behind all of its day. */
        void insert(Movement added) {
            Movement ahead = null;
            for (Movement m = first; m != null && m.day <= added.day; m = m.next) {
                ahead = m;
            }
            if (ahead == null) {
                added.next = first;
                first = added;
            } else {
                added.next = ahead.next;
                ahead.next = added;
            }
            size++;
        }

        void remove(Movement gone) {
            Movement ahead = null;
            for (Movement m = first; m != null && m != gone; m = m.next) {
                ahead = m;
            }
            if (ahead == null) {
                first = gone.next;
            } else {
                ahead.next = gone.next;
            }
            gone.next = null;
            size--;
        }

        int place(Movement asked) {
            int place = 0;
            for (Movement m = first; m != null && m != asked; m = m.next) {
                place++;
            }
            return place;
        }

        int units(int item, int day) {
            int units = 0;
            for (Movement m = first; m != null && m.day <= day; m = m.next) {
                if (m.item == item) {
                    units += m.change();
                }
            }
            return units;
        }

        /**
         * The greatest quantity that could be taken from an item right behind
         * a place, with the whole ledger still valid.
         */
        int spare(int item, int day, int number) {
            int units = 0;
            int spare = 0;
            for (Movement m = first; m != null; m = m.next) {
                if (m.item == item) {
                    boolean behind = m.isBehind(day, number);
                    if (behind && m.needsUnits()) {
                        spare = Math.min(spare, units - m.quantity);
                    }
                    units += m.change();
                    spare = behind ? spare : units;
                }
            }
            return spare;
        }

        boolean spreadsOver(Movement receipt) {
            Movement m = first;
            while (m != null && m.shareOf(receipt) == null) {
                m = m.next;
            }
            return m != null;
        }
    }

    /** A cost layer; without units it is in no queue. */
    private static final class Layer {
        final int origin;
        int units;
        long cost;
        Layer next;

        Layer(int origin) {
            this.origin = origin;
        }

        void fill(int newUnits, long newCost, Layer newNext) {
            units = newUnits;
            cost = newCost;
            next = newNext;
        }

        long take(int wanted) {
            long taken = units > 0 ? cost * wanted / units : 0;
            units -= wanted;
            cost -= taken;
            return taken;
        }
    }

    /** The figures of one item by one method, as the movements of a replay make them. */
    private abstract static class Valuation {
        int units;
        long received;
        long issued;
        long revalued;
        long expensed;

        abstract void empty();

        abstract void bring(Movement receipt);

        /** Takes units ahead of the change of the quantity on hand, and tells their cost. */
        abstract long take(int wanted);

        abstract void bringBack(Movement revaluation);

        /** Adds as much of a part to the stock as is still there, and tells how much that is. */
        abstract long absorb(Movement receipt, int part);

        abstract long worth();

        void replay(Movement first, int item, int day) {
            units = 0;
            received = 0;
            issued = 0;
            revalued = 0;
            expensed = 0;
            empty();
            for (Movement m = first; m != null && m.day <= day; m = m.next) {
                if (m.kind == LANDED_COST) {
                    applyShares(m, item);
                } else if (m.item == item) {
                    apply(m);
                }
            }
        }

        private void apply(Movement m) {
            if (m.kind == RECEIPT) {
                bring(m);
                received += m.cost;
            } else if (m.kind == ISSUE) {
                m.taken = take(m.quantity);
                issued += m.taken;
            } else {
                revalued += m.cost - take(m.quantity);
                bringBack(m);
            }
            units += m.change();
        }

        private void applyShares(Movement landed, int item) {
            for (Share share = landed.shares; share != null; share = share.next) {
                if (share.receipt.item == item) {
                    received += share.part;
                    expensed += share.part - absorb(share.receipt, share.part);
                }
            }
        }

        /** What of a part falls on so many units of its receipt. */
        static long portion(Movement receipt, int part, int units) {
            return receipt.quantity > 0 ? (long) part * units / receipt.quantity : 0;
        }
    }

    private static final class FirstInFirstOut extends Valuation {
        private Layer first;
        private Layer last;

        void empty() {
            first = null;
            last = null;
        }

        void bring(Movement receipt) {
            Layer added = receipt.layer;
            added.fill(receipt.quantity, receipt.cost, null);
            if (last == null) {
                first = added;
            } else {
                last.next = added;
            }
            last = added;
        }

        long take(int wanted) {
            long taken = 0;
            int open = wanted;
            for (Layer layer = first; layer != null && open > 0; layer = layer.next) {
                int now = Math.min(open, layer.units);
                taken += layer.take(now);
                open -= now;
                first = layer.units > 0 ? layer : layer.next;
            }
            if (first == null) {
                last = null;
            }
            return taken;
        }

        void bringBack(Movement revaluation) {
            Layer added = revaluation.layer;
            added.fill(revaluation.quantity, revaluation.cost, first);
            first = added;
            if (last == null) {
                last = added;
            }
        }

        long absorb(Movement receipt, int part) {
            Layer layer = receipt.layer;
            long kept = portion(receipt, part, layer.units);
            layer.cost += kept;
            return kept;
        }

        long worth() {
            long worth = 0;
            for (Layer layer = first; layer != null; layer = layer.next) {
                worth += layer.cost;
            }
            return worth;
        }

        int length() {
            int length = 0;
            for (Layer layer = first; layer != null; layer = layer.next) {
                length++;
            }
            return length;
        }

        /** The layer of that place in the queue, null if there is none. */
        Layer layerAt(int index) {
            Layer layer = index < 0 ? null : first;
            for (int place = 0; place < index && layer != null; place++) {
                layer = layer.next;
            }
            return layer;
        }
    }

    private static final class MovingAverage extends Valuation {
        private long worth;

        void empty() {
            worth = 0;
        }

        void bring(Movement receipt) {
            worth += receipt.cost;
        }

        long take(int wanted) {
            long taken = units > 0 ? worth * wanted / units : 0;
            worth -= taken;
            return taken;
        }

        void bringBack(Movement revaluation) {
            worth += revaluation.cost;
        }

        long absorb(Movement receipt, int part) {
            long kept = portion(receipt, part, Math.min(units, receipt.quantity));
            worth += kept;
            return kept;
        }

        long worth() {
            return worth;
        }
    }
}
