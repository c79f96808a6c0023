import java.math.BigInteger;
import java.util.ArrayList;
import java.util.Comparator;
import java.util.LinkedList;
import java.util.List;
import java.util.NoSuchElementException;

/**
 * The document once more, in the plainest words that Java's library allows and
 * without regard to speed, for comparison with Layerbook. It shares no way of
 * working with it: validity is tried on copies of the ledger, available by
 * trying every quantity, and the cents are given out by sorting.
 */
final class Model {
    private static final int ARGUMENT = 1, INDEX = 2, STATE = 3;

    static final class Posting {
        int number, kind, day, item, quantity, cost;
        long mask;
        int[] parts = new int[64];
        boolean cancelled;
    }

    /** What a walk through the ledger up to some posting or day has made of one item. */
    static final class Figures {
        int units;
        long average, received;
        long[] issued = new long[2], revalued = new long[2], expensed = new long[2], lastCost = new long[2];
        /** Quantity, cost and origin of each layer. */
        LinkedList<long[]> queue = new LinkedList<>();
    }

    private final List<Posting> all = new ArrayList<>();
    private final int[] weights = {1, 1, 1, 1, 1, 1};
    private int closed = -1;

    private static void fail(int kind) {
        switch (kind) {
            case ARGUMENT: throw new IllegalArgumentException();
            case INDEX: throw new IndexOutOfBoundsException();
            case STATE: throw new IllegalStateException();
            default: throw new NoSuchElementException();
        }
    }

    private static void need(boolean holds, int kind) {
        if (!holds) {
            fail(kind);
        }
    }

    private static boolean within(int number, int least, int most) {
        return least <= number && number <= most;
    }

    private static List<Posting> ordered(List<Posting> postings) {
        List<Posting> ledger = new ArrayList<>(postings);
        ledger.removeIf(p -> p.cancelled);
        ledger.sort(Comparator.<Posting>comparingInt(p -> p.day).thenComparingInt(p -> p.number));
        return ledger;
    }

    private static boolean valid(List<Posting> ledger) {
        int[] units = new int[6];
        for (Posting p : ledger) {
            if ((p.kind == 1 || p.kind == 2) && p.quantity > units[p.item]) {
                return false;
            }
            if (p.kind == 0) {
                units[p.item] += p.quantity;
            } else if (p.kind == 1) {
                units[p.item] -= p.quantity;
            }
        }
        return true;
    }

    private Posting posting(int kind, int day, int item, int quantity, int cost) {
        Posting p = new Posting();
        p.number = all.size();
        p.kind = kind;
        p.day = day;
        p.item = item;
        p.quantity = quantity;
        p.cost = cost;
        return p;
    }

    private boolean validWith(Posting p) {
        List<Posting> tried = new ArrayList<>(all);
        tried.add(p);
        return valid(ordered(tried));
    }

    private int post(Posting p) {
        need(p.day > closed, STATE);
        need(all.size() < 60, STATE);
        need(validWith(p), STATE);
        all.add(p);
        return p.number;
    }

    int receive(int day, int item, int quantity, int cost) {
        need(within(day, 0, 364) && within(item, 0, 5) && within(quantity, 1, 1000) && within(cost, 0, 1000000), ARGUMENT);
        return post(posting(0, day, item, quantity, cost));
    }

    int issue(int day, int item, int quantity) {
        need(within(day, 0, 364) && within(item, 0, 5) && within(quantity, 1, 1000), ARGUMENT);
        return post(posting(1, day, item, quantity, 0));
    }

    int revalue(int day, int item, int quantity, int cost) {
        need(within(day, 0, 364) && within(item, 0, 5) && within(quantity, 1, 1000) && within(cost, 0, 1000000), ARGUMENT);
        return post(posting(2, day, item, quantity, cost));
    }

    int land(int day, int amount, int basis, long mask) {
        need(within(day, 0, 364) && within(amount, 1, 1000000) && within(basis, 0, 2) && mask != 0, ARGUMENT);
        List<Posting> receipts = new ArrayList<>();
        for (int bit = 0; bit < 64; bit++) {
            if ((mask & 1L << bit) != 0) {
                need(bit < all.size(), INDEX);
                receipts.add(all.get(bit));
            }
        }
        long sum = 0;
        for (Posting r : receipts) {
            need(!r.cancelled && r.kind == 0 && r.day <= day, STATE);
            sum += basisOf(r, basis);
        }
        need(sum > 0, STATE);
        Posting p = posting(3, day, -1, 0, amount);
        p.mask = mask;
        share(p, receipts, basis, sum);
        return post(p);
    }

    private long basisOf(Posting r, int basis) {
        return basis == 0 ? r.quantity : basis == 1 ? r.cost : (long) r.quantity * weights[r.item];
    }

    private void share(Posting p, List<Posting> receipts, int basis, long sum) {
        BigInteger[] remainders = new BigInteger[64];
        int left = p.cost;
        for (Posting r : receipts) {
            BigInteger[] divided = BigInteger.valueOf(p.cost).multiply(BigInteger.valueOf(basisOf(r, basis)))
                .divideAndRemainder(BigInteger.valueOf(sum));
            p.parts[r.number] = divided[0].intValueExact();
            remainders[r.number] = divided[1];
            left -= p.parts[r.number];
        }
        List<Posting> byRemainder = new ArrayList<>(receipts);
        byRemainder.sort((a, b) -> remainders[b.number].compareTo(remainders[a.number]));
        for (Posting r : byRemainder.subList(0, left)) {
            p.parts[r.number]++;
        }
    }

    int cancel(int number) {
        Posting p = find(number);
        need(!p.cancelled && p.day > closed, STATE);
        for (Posting landed : all) {
            need(landed.cancelled || (landed.mask & 1L << number) == 0, STATE);
        }
        p.cancelled = true;
        boolean stands = valid(ordered(all));
        p.cancelled = stands;
        need(stands, STATE);
        return ordered(all).size();
    }

    int close(int day) {
        need(within(day, 0, 364), ARGUMENT);
        need(day > closed, STATE);
        int before = closed;
        closed = day;
        return before;
    }

    int setWeight(int item, int weight) {
        need(within(item, 0, 5) && within(weight, 1, 100), ARGUMENT);
        int before = weights[item];
        weights[item] = weight;
        return before;
    }

    int movements() {
        return all.size();
    }

    private Posting find(int number) {
        need(within(number, 0, all.size() - 1), INDEX);
        return all.get(number);
    }

    int kindOf(int number) {
        return find(number).kind;
    }

    int dayOf(int number) {
        return find(number).day;
    }

    boolean isCancelled(int number) {
        return find(number).cancelled;
    }

    int placeOf(int number) {
        return ordered(all).indexOf(find(number));
    }

    int partOf(int landed, int receipt) {
        find(receipt);
        need(find(landed).kind == 3, STATE);
        return find(landed).parts[receipt];
    }

    long costOf(int number, boolean byAverage) {
        Posting p = find(number);
        need(p.kind == 1 && !p.cancelled, STATE);
        return walk(p.item, p.day, p).lastCost[byAverage ? 1 : 0];
    }

    private void needItemAndDay(int item, int day) {
        need(within(item, 0, 5) && within(day, 0, 364), ARGUMENT);
    }

    int onHand(int item, int day) {
        needItemAndDay(item, day);
        return walk(item, day, null).units;
    }

    int available(int item, int day) {
        needItemAndDay(item, day);
        int most = 1000;
        while (most > 0 && !validWith(posting(1, day, item, most, 0))) {
            most--;
        }
        return most;
    }

    long value(int item, int day, boolean byAverage) {
        needItemAndDay(item, day);
        Figures f = walk(item, day, null);
        return byAverage ? f.average : f.queue.stream().mapToLong(layer -> layer[1]).sum();
    }

    long received(int item, int day) {
        needItemAndDay(item, day);
        return walk(item, day, null).received;
    }

    long issued(int item, int day, boolean byAverage) {
        needItemAndDay(item, day);
        return walk(item, day, null).issued[byAverage ? 1 : 0];
    }

    long revalued(int item, int day, boolean byAverage) {
        needItemAndDay(item, day);
        return walk(item, day, null).revalued[byAverage ? 1 : 0];
    }

    long expensed(int item, int day, boolean byAverage) {
        needItemAndDay(item, day);
        return walk(item, day, null).expensed[byAverage ? 1 : 0];
    }

    int layers(int item, int day) {
        needItemAndDay(item, day);
        return walk(item, day, null).queue.size();
    }

    /** Column 0 is a layer's quantity, 1 its cost, 2 its origin. */
    long layer(int item, int day, int layer, int column) {
        needItemAndDay(item, day);
        List<long[]> queue = walk(item, day, null).queue;
        need(within(layer, 0, queue.size() - 1), INDEX);
        return queue.get(layer)[column];
    }

    private Figures walk(int item, int day, Posting last) {
        Figures f = new Figures();
        for (Posting p : ordered(all)) {
            if (p.day <= day) {
                step(f, p, item);
            }
            if (p == last) {
                break;
            }
        }
        return f;
    }

    private void step(Figures f, Posting p, int item) {
        if (p.kind == 3) {
            for (Posting r : all) {
                if (r.item == item && (p.mask & 1L << r.number) != 0) {
                    landOn(f, r, p.parts[r.number]);
                }
            }
        } else if (p.item == item && p.kind == 0) {
            f.queue.addLast(new long[] {p.quantity, p.cost, p.number});
            f.average += p.cost;
            f.received += p.cost;
            f.units += p.quantity;
        } else if (p.item == item) {
            long fromQueue = takeFromQueue(f, p.quantity);
            long fromAverage = f.average * p.quantity / f.units;
            f.average -= fromAverage;
            if (p.kind == 1) {
                f.units -= p.quantity;
                f.lastCost = new long[] {fromQueue, fromAverage};
                f.issued[0] += fromQueue;
                f.issued[1] += fromAverage;
            } else {
                f.queue.addFirst(new long[] {p.quantity, p.cost, p.number});
                f.average += p.cost;
                f.revalued[0] += p.cost - fromQueue;
                f.revalued[1] += p.cost - fromAverage;
            }
        }
    }

    private static long takeFromQueue(Figures f, int wanted) {
        long taken = 0;
        while (wanted > 0) {
            long[] layer = f.queue.getFirst();
            if (layer[0] <= wanted) {
                taken += layer[1];
                wanted -= (int) layer[0];
                f.queue.removeFirst();
            } else {
                long cost = layer[1] * wanted / layer[0];
                layer[0] -= wanted;
                layer[1] -= cost;
                taken += cost;
                wanted = 0;
            }
        }
        return taken;
    }

    private static void landOn(Figures f, Posting r, int part) {
        long inQueue = 0;
        for (long[] layer : f.queue) {
            if (layer[2] == r.number) {
                inQueue = part * layer[0] / r.quantity;
                layer[1] += inQueue;
            }
        }
        long inAverage = (long) part * Math.min(f.units, r.quantity) / r.quantity;
        f.average += inAverage;
        f.received += part;
        f.expensed[0] += part - inQueue;
        f.expensed[1] += part - inAverage;
    }
}
