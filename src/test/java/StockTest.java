/** Promises 16 to 26: an item at the end of a day. */
public final class StockTest {
    private static final Check check = new Check();

    /** A call that asks about an item at the end of a day. */
    private interface Question {
        long answer(int item, int day);
    }

    public static void main(String[] args) {
        wrongArguments();
        onHand();
        available();
        value();
        received();
        issued();
        revalued();
        expensed();
        expensedByAverageWhenMoreIsOnHand();
        landedCostOverUsedLayers();
        layers();
        layerEdges();
        balance();
        largeNumbers();
        check.end();
    }

    private static void wrongArguments() {
        Layerbook x = new Layerbook();
        x.receive(0, 0, 1, 1);
        x.receive(0, 5, 1, 1);
        range("onHand", (item, day) -> x.onHand(item, day));
        range("available", (item, day) -> x.available(item, day));
        range("value", (item, day) -> x.value(item, day, false));
        range("value by average", (item, day) -> x.value(item, day, true));
        range("received", (item, day) -> x.received(item, day));
        range("issued", (item, day) -> x.issued(item, day, true));
        range("revalued", (item, day) -> x.revalued(item, day, true));
        range("expensed", (item, day) -> x.expensed(item, day, false));
        range("layers", (item, day) -> x.layers(item, day));
        range("layerQuantity", (item, day) -> x.layerQuantity(item, day, 0));
        range("layerCost", (item, day) -> x.layerCost(item, day, 0));
        range("layerOrigin", (item, day) -> x.layerOrigin(item, day, 0));
        range("layerQuantity without layer", (item, day) -> inRange(item, day) ? 0 : x.layerQuantity(item, day, -1));
        range("layerCost without layer", (item, day) -> inRange(item, day) ? 0 : x.layerCost(item, day, 7));
        range("layerOrigin without layer", (item, day) -> inRange(item, day) ? 0 : x.layerOrigin(item, day, -1));
    }

    private static boolean inRange(int item, int day) {
        return item >= 0 && item <= 5 && day >= 0 && day <= 364;
    }

    private static void range(String call, Question asked) {
        check.dueArgument(call + ": item -1", () -> asked.answer(-1, 0));
        check.dueArgument(call + ": item 6", () -> asked.answer(6, 0));
        check.dueArgument(call + ": day -1", () -> asked.answer(0, -1));
        check.dueArgument(call + ": day 365", () -> asked.answer(5, 365));
        // Whatever they answer, the first and the last item and day must not throw.
        asked.answer(0, 0);
        asked.answer(5, 364);
    }

    /** Promise 16. */
    private static void onHand() {
        Layerbook x = new Layerbook();
        x.receive(10, 3, 7, 70);
        x.issue(12, 3, 2);
        x.revalue(12, 3, 5, 1);
        x.land(13, 5, Layerbook.BY_QUANTITY, 1);
        x.receive(12, 3, 1, 1);
        check.due("onHand: the day ahead", x.onHand(3, 9), 0);
        check.due("onHand: the day itself", x.onHand(3, 10), 7);
        check.due("onHand: the day behind", x.onHand(3, 11), 7);
        check.due("onHand: all movements of the day", x.onHand(3, 12), 6);
        check.due("onHand: in the end", x.onHand(3, 364), 6);
        check.due("onHand: another item", x.onHand(2, 364), 0);
    }

    /** Promise 17. */
    private static void available() {
        Layerbook x = new Layerbook();
        x.receive(10, 0, 20, 1);
        check.due("available: ahead of the receipt", x.available(0, 9), 0);
        check.due("available: on its day", x.available(0, 10), 20);
        x.issue(20, 0, 5);
        check.due("available: a later issue", x.available(0, 10), 15);
        x.revalue(15, 0, 18, 1);
        check.due("available: a later revaluation leaves 2", x.available(0, 10), 2);
        check.due("available: the day ahead of the revaluation", x.available(0, 14), 2);
        check.due("available: its own day", x.available(0, 15), 15);
        x.receive(19, 0, 30, 1);
        check.due("available: a receipt ahead of the issue", x.available(0, 15), 20);
        check.due("available: on the receipt's day", x.available(0, 19), 45);
        check.due("available: another item", x.available(1, 364), 0);
        x.receive(30, 0, 1000, 1);
        check.due("available: up to 1000", x.available(0, 30), 1000);
        x.close(364);
        check.due("available: closed books aside", x.available(0, 15), 20);
        Layerbook y = new Layerbook();
        y.receive(1, 0, 1000, 1);
        y.receive(1, 0, 1000, 1);
        y.issue(5, 0, 1000);
        check.due("available: 1000 of 2000", y.available(0, 1), 1000);
        y.issue(6, 0, 999);
        check.due("available: one of 2000", y.available(0, 1), 1);
        check.due("available: that one is posted", y.issue(1, 0, 1), 4);
        check.due("available: none", y.available(0, 1), 0);
    }

    /** Promise 18. */
    private static void value() {
        Layerbook x = new Layerbook();
        x.receive(1, 0, 3, 100);
        x.receive(2, 0, 3, 10);
        x.issue(3, 0, 2);
        check.due("value: ahead", x.value(0, 0, false), 0);
        check.due("value: one layer", x.value(0, 1, false), 100);
        check.due("value: two layers", x.value(0, 2, false), 110);
        check.due("value: 110 - 66", x.value(0, 3, false), 44);
        check.due("value: by average, two receipts", x.value(0, 2, true), 110);
        check.due("value: 110 - 110 * 2 / 6", x.value(0, 3, true), 74);
        check.due("value: another item", x.value(1, 3, true), 0);
        x.revalue(4, 0, 1, 50);
        check.due("value: 44 - 34 + 50", x.value(0, 4, false), 60);
        check.due("value: 74 - 18 + 50", x.value(0, 4, true), 106);
        x.land(4, 7, Layerbook.BY_QUANTITY, 3);
        check.due("value: the first layer is gone, the second gets 3", x.value(0, 4, false), 63);
        check.due("value: by average both parts", x.value(0, 4, true), 113);
    }

    /** Promise 19. */
    private static void received() {
        Layerbook x = new Layerbook();
        x.receive(1, 0, 2, 100);
        x.receive(1, 1, 2, 30);
        x.issue(2, 0, 2);
        x.land(3, 10, Layerbook.BY_QUANTITY, 3);
        x.revalue(4, 1, 1, 999);
        check.due("received: ahead", x.received(0, 0), 0);
        check.due("received: the receipt", x.received(0, 1), 100);
        check.due("received: a part becomes effective with its landed cost", x.received(0, 2), 100);
        check.due("received: a part that is expensed", x.received(0, 3), 105);
        check.due("received: a revaluation does not count", x.received(1, 4), 35);
        check.due("received: another item", x.received(2, 4), 0);
    }

    /** Promise 20. */
    private static void issued() {
        Layerbook x = new Layerbook();
        x.receive(1, 0, 4, 100);
        x.receive(1, 0, 4, 20);
        x.issue(2, 0, 3);
        x.issue(3, 0, 3);
        x.revalue(3, 0, 1, 500);
        check.due("issued: none so far", x.issued(0, 1, false), 0);
        check.due("issued: one issue", x.issued(0, 2, false), 75);
        check.due("issued: two issues, 75 + 25 + 10", x.issued(0, 3, false), 110);
        check.due("issued: 120 * 3 / 8", x.issued(0, 2, true), 45);
        check.due("issued: 45 + 75 * 3 / 5", x.issued(0, 3, true), 90);
        check.due("issued: another item", x.issued(1, 3, true), 0);
    }

    /** Promise 21. */
    private static void revalued() {
        Layerbook x = new Layerbook();
        x.receive(1, 0, 4, 100);
        x.receive(1, 0, 4, 20);
        x.revalue(2, 0, 5, 50);
        check.due("revalued: none so far", x.revalued(0, 1, true), 0);
        check.due("revalued: 50 - 105", x.revalued(0, 2, false), -55);
        check.due("revalued: 50 - 75", x.revalued(0, 2, true), -25);
        x.revalue(2, 0, 8, 500);
        check.due("revalued: -55 + 500 - 65", x.revalued(0, 2, false), 380);
        check.due("revalued: -25 + 500 - 95", x.revalued(0, 2, true), 380);
        check.due("revalued: the day ahead", x.revalued(0, 1, false), 0);
        check.due("revalued: another item", x.revalued(1, 2, false), 0);
    }

    /** Promise 22. */
    private static void expensed() {
        Layerbook x = new Layerbook();
        x.receive(1, 0, 3, 90);
        x.issue(2, 0, 2);
        x.land(3, 100, Layerbook.BY_QUANTITY, 1);
        check.due("expensed: none so far", x.expensed(0, 2, false), 0);
        check.due("expensed: 100 - 100 / 3", x.expensed(0, 3, false), 67);
        check.due("expensed: 100 - 100 / 3 by average", x.expensed(0, 3, true), 67);
        check.due("expensed: what is kept", x.layerCost(0, 3, 0), 30 + 33);
        x.issue(3, 0, 1);
        x.land(4, 50, Layerbook.BY_QUANTITY, 1);
        check.due("expensed: nothing is left", x.expensed(0, 4, false), 117);
        check.due("expensed: nothing is left by average", x.expensed(0, 4, true), 117);
        check.due("expensed: no value", x.value(0, 4, true), 0);
        check.due("expensed: no layer", x.layers(0, 4), 0);
        check.due("expensed: another item", x.expensed(1, 4, true), 0);
        Layerbook whole = new Layerbook();
        whole.receive(1, 0, 3, 90);
        whole.land(1, 100, Layerbook.BY_QUANTITY, 1);
        whole.issue(1, 0, 3);
        check.due("expensed: the receipt was whole when it landed", whole.expensed(0, 1, false), 0);
        check.due("expensed: it is issued with it", whole.issued(0, 1, false), 190);
    }

    private static void expensedByAverageWhenMoreIsOnHand() {
        Layerbook x = new Layerbook();
        x.receive(1, 0, 4, 100);
        x.receive(1, 0, 10, 10);
        x.issue(2, 0, 4);
        x.land(3, 40, Layerbook.BY_QUANTITY, 1);
        check.due("expensed: first in first out, the layer is gone", x.expensed(0, 3, false), 40);
        check.due("expensed: by average at most the receipt's quantity counts", x.expensed(0, 3, true), 0);
        check.due("expensed: it is in the value, 110 - 31 + 40", x.value(0, 3, true), 119);
        x.issue(4, 0, 7);
        x.land(5, 40, Layerbook.BY_QUANTITY, 1);
        check.due("expensed: by average 3 of 4", x.expensed(0, 5, true), 10);
    }

    private static void landedCostOverUsedLayers() {
        Layerbook x = new Layerbook();
        x.receive(1, 0, 4, 100);
        x.receive(1, 0, 4, 200);
        x.revalue(2, 0, 6, 60);
        x.land(3, 80, Layerbook.BY_QUANTITY, 3);
        check.due("landed: a revaluation's layer gets nothing", x.layerCost(0, 3, 0), 60);
        check.due("landed: the rest of the receipt's layer, 100 + 40 * 2 / 4", x.layerCost(0, 3, 1), 120);
        check.due("landed: what is expensed", x.expensed(0, 3, false), 60);
        check.due("landed: the origin stays", x.layerOrigin(0, 3, 1), 1);
        x.issue(1, 0, 2);
        check.due("landed: a back-dated issue of 2 uses the layer up", x.layers(0, 3), 1);
        check.due("landed: then all is expensed", x.expensed(0, 3, false), 80);
        check.due("landed: the parts stay as they are", x.partOf(3, 1), 40);
    }

    /** Promises 23 to 26. */
    private static void layers() {
        Layerbook x = new Layerbook();
        x.receive(5, 0, 3, 100);
        x.receive(4, 0, 5, 50);
        x.receive(5, 1, 9, 9);
        x.revalue(6, 0, 1, 30);
        x.issue(7, 0, 2);
        check.due("layers: ahead", x.layers(0, 3), 0);
        check.due("layers: one", x.layers(0, 4), 1);
        check.due("layers: two", x.layers(0, 5), 2);
        check.due("layers: with the revaluation's", x.layers(0, 6), 3);
        check.due("layers: it is issued", x.layers(0, 7), 2);
        check.due("layers: another item", x.layers(1, 7), 1);
        check.due("layerQuantity: the revaluation's", x.layerQuantity(0, 6, 0), 1);
        check.due("layerQuantity: what is left behind it", x.layerQuantity(0, 6, 1), 4);
        check.due("layerQuantity: the last", x.layerQuantity(0, 6, 2), 3);
        check.due("layerQuantity: after the issue", x.layerQuantity(0, 7, 0), 3);
        check.due("layerQuantity: the day ahead is as it was", x.layerQuantity(0, 5, 0), 5);
        check.due("layerCost: the revaluation's", x.layerCost(0, 6, 0), 30);
        check.due("layerCost: 50 - 50 / 5", x.layerCost(0, 6, 1), 40);
        check.due("layerCost: 40 - 40 / 4", x.layerCost(0, 7, 0), 30);
        check.due("layerCost: the last", x.layerCost(0, 7, 1), 100);
        check.due("layerOrigin: the revaluation", x.layerOrigin(0, 6, 0), 3);
        check.due("layerOrigin: the back-dated receipt", x.layerOrigin(0, 6, 1), 1);
        check.due("layerOrigin: the first receipt", x.layerOrigin(0, 6, 2), 0);
        check.due("layerOrigin: another item", x.layerOrigin(1, 7, 0), 2);
        check.due("value: all layers together", x.value(0, 6, false), 170);
    }

    private static void layerEdges() {
        Layerbook x = new Layerbook();
        x.receive(5, 0, 3, 100);
        x.receive(5, 0, 3, 100);
        for (int wrong : new int[] {-1, 2, 60, Integer.MAX_VALUE, Integer.MIN_VALUE}) {
            check.dueIndex("layerQuantity " + wrong, () -> x.layerQuantity(0, 5, wrong));
            check.dueIndex("layerCost " + wrong, () -> x.layerCost(0, 5, wrong));
            check.dueIndex("layerOrigin " + wrong, () -> x.layerOrigin(0, 5, wrong));
        }
        check.dueIndex("layerQuantity: the day ahead", () -> x.layerQuantity(0, 4, 0));
        check.dueIndex("layerCost: another item", () -> x.layerCost(1, 5, 0));
        check.dueIndex("layerOrigin: the day ahead", () -> x.layerOrigin(0, 4, 0));
        check.due("layerOrigin: the last one", x.layerOrigin(0, 5, 1), 1);
    }

    /** What came in and was revalued is what went out, was expensed, and is left. */
    private static void balance() {
        Layerbook x = new Layerbook();
        x.receive(1, 0, 7, 1001);
        x.receive(3, 0, 11, 997);
        x.issue(4, 0, 9);
        x.revalue(5, 0, 5, 333);
        x.land(6, 101, Layerbook.BY_COST, 3);
        x.issue(7, 0, 8);
        x.receive(2, 0, 13, 1234);
        for (int day = 0; day < 9; day++) {
            for (int method = 0; method < 2; method++) {
                boolean byAverage = method == 1;
                long in = x.received(0, day) + x.revalued(0, day, byAverage);
                long out = x.issued(0, day, byAverage) + x.expensed(0, day, byAverage);
                check.due("balance of day " + day, x.value(0, day, byAverage), in - out);
            }
        }
    }

    private static void largeNumbers() {
        Layerbook x = new Layerbook();
        for (int number = 0; number < 30; number++) {
            x.receive(0, 0, 1000, 1000000);
        }
        for (int number = 0; number < 20; number++) {
            x.land(0, 1000000, Layerbook.BY_QUANTITY, 1);
        }
        check.due("large: a layer's cost", x.layerCost(0, 0, 0), 21000000);
        check.due("large: the value by average", x.value(0, 0, true), 50000000);
        int issue = x.issue(0, 0, 999);
        check.due("large: 21000000 * 999 / 1000", x.costOf(issue, false), 20979000);
        check.due("large: 50000000 * 999 / 30000", x.costOf(issue, true), 1665000);
    }
}
