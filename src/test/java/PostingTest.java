/** Promises 1 to 8: a new object, and the calls that change the books. */
public final class PostingTest {
    private static final Check check = new Check();

    public static void main(String[] args) {
        newObject();
        receive();
        receiveWrong();
        issue();
        issueWrong();
        issueAheadOfLaterTakes();
        revalue();
        revalueWrong();
        landSpreads();
        landGivesCentsOut();
        landWithLargeNumbers();
        landWrong();
        cancel();
        cancelWrong();
        cancelReceiptThatIsNeeded();
        close();
        setWeight();
        sixtyMovements();
        check.end();
    }

    /** Promise 1. */
    private static void newObject() {
        Layerbook x = new Layerbook();
        check.due("new: movements()", x.movements(), 0);
        for (int item = 0; item <= 5; item++) {
            check.due("new: onHand", x.onHand(item, 364), 0);
            check.due("new: available", x.available(item, 0), 0);
            check.due("new: value", x.value(item, 364, false), 0);
            check.due("new: value by average", x.value(item, 364, true), 0);
            check.due("new: received", x.received(item, 364), 0);
            check.due("new: issued", x.issued(item, 364, true), 0);
            check.due("new: revalued", x.revalued(item, 364, false), 0);
            check.due("new: expensed", x.expensed(item, 364, false), 0);
            check.due("new: layers", x.layers(item, 364), 0);
            check.due("new: the weight", x.setWeight(item, 1), 1);
        }
        check.due("new: nothing is closed for day 0", x.receive(0, 0, 1, 1), 0);
        check.due("new: not closed", x.close(0), Layerbook.NONE);
        Layerbook other = new Layerbook();
        check.due("another new object", other.movements(), 0);
    }

    /** Promise 2. */
    private static void receive() {
        Layerbook x = new Layerbook();
        check.due("receive: the first number", x.receive(0, 0, 1, 0), 0);
        check.due("receive: the next number", x.receive(364, 5, 1000, 1000000), 1);
        check.due("receive: a back-dated one", x.receive(100, 5, 1, 7), 2);
        check.due("receive: the kind", x.kindOf(1), Layerbook.RECEIPT);
        check.due("receive: the day", x.dayOf(1), 364);
        check.due("receive: on hand", x.onHand(5, 364), 1001);
        check.due("receive: the value", x.value(5, 364, true), 1000007);
        check.due("receive: the cost is that of the whole quantity", x.layerCost(5, 364, 1), 1000000);
        check.due("receive: the back-dated layer is ahead", x.layerOrigin(5, 364, 0), 2);
        check.due("receive: no cost", x.layerCost(0, 0, 0), 0);
        check.due("receive: other items have nothing", x.onHand(1, 364), 0);
    }

    private static void receiveWrong() {
        Layerbook x = new Layerbook();
        check.dueArgument("receive: day -1", () -> x.receive(-1, 0, 1, 1));
        check.dueArgument("receive: day 365", () -> x.receive(365, 0, 1, 1));
        check.dueArgument("receive: item -1", () -> x.receive(0, -1, 1, 1));
        check.dueArgument("receive: item 6", () -> x.receive(0, 6, 1, 1));
        check.dueArgument("receive: quantity 0", () -> x.receive(0, 0, 0, 1));
        check.dueArgument("receive: quantity 1001", () -> x.receive(0, 0, 1001, 1));
        check.dueArgument("receive: the least quantity", () -> x.receive(0, 0, Integer.MIN_VALUE, 1));
        check.dueArgument("receive: cost -1", () -> x.receive(0, 0, 1, -1));
        check.dueArgument("receive: cost 1000001", () -> x.receive(0, 0, 1, 1000001));
        check.due("receive: nothing was posted", x.movements(), 0);
        x.close(10);
        check.dueState("receive: a closed day", () -> x.receive(10, 0, 1, 1));
        check.dueState("receive: ahead of the closed day", () -> x.receive(0, 0, 1, 1));
        check.dueArgument("receive: a wrong argument goes ahead of closed books", () -> x.receive(10, 6, 1, 1));
        check.due("receive: still nothing posted", x.movements(), 0);
        check.due("receive: behind the closed day", x.receive(11, 0, 1, 1), 0);
    }

    /** Promise 3. */
    private static void issue() {
        Layerbook x = new Layerbook();
        x.receive(1, 0, 10, 100);
        x.receive(3, 0, 5, 80);
        check.due("issue: the number", x.issue(4, 0, 12), 2);
        check.due("issue: the kind", x.kindOf(2), Layerbook.ISSUE);
        check.due("issue: on hand", x.onHand(0, 4), 3);
        check.due("issue: two layers, 100 + 80 * 2 / 5", x.costOf(2, false), 132);
        check.due("issue: 180 * 12 / 15", x.costOf(2, true), 144);
        check.due("issue: all that is left", x.issue(4, 0, 3), 3);
        check.due("issue: the rest of the layer", x.costOf(3, false), 48);
        check.due("issue: no layer is left", x.layers(0, 4), 0);
        check.due("issue: a layer used up by the day is gone", x.layers(0, 3), 2);
    }

    private static void issueWrong() {
        Layerbook x = new Layerbook();
        x.receive(5, 0, 1000, 1);
        x.receive(5, 0, 500, 1);
        check.dueArgument("issue: day -1", () -> x.issue(-1, 0, 1));
        check.dueArgument("issue: day 365", () -> x.issue(365, 0, 1));
        check.dueArgument("issue: item -1", () -> x.issue(5, -1, 1));
        check.dueArgument("issue: item 6", () -> x.issue(5, 6, 1));
        check.dueArgument("issue: quantity 0", () -> x.issue(5, 0, 0));
        check.dueArgument("issue: quantity 1001, though it is on hand", () -> x.issue(5, 0, 1001));
        check.dueArgument("issue: a negative quantity", () -> x.issue(5, 0, -1));
        check.dueState("issue: ahead of the receipt", () -> x.issue(4, 0, 1));
        check.dueState("issue: another item", () -> x.issue(5, 1, 1));
        check.due("issue: 1000", x.issue(5, 0, 1000), 2);
        check.dueState("issue: one too many", () -> x.issue(5, 0, 501));
        check.due("issue: nothing more was posted", x.movements(), 3);
        check.due("issue: nothing more was taken", x.onHand(0, 364), 500);
        x.close(6);
        check.dueState("issue: a closed day", () -> x.issue(6, 0, 1));
        check.dueArgument("issue: a wrong argument goes ahead of closed books", () -> x.issue(6, 0, 0));
        check.due("issue: behind the closed day", x.issue(7, 0, 500), 3);
    }

    private static void issueAheadOfLaterTakes() {
        Layerbook x = new Layerbook();
        x.receive(1, 0, 10, 100);
        x.issue(5, 0, 8);
        check.dueState("issue: a later issue needs the units", () -> x.issue(2, 0, 3));
        check.due("issue: what the later issue leaves", x.issue(2, 0, 2), 2);
        Layerbook y = new Layerbook();
        y.receive(1, 0, 10, 100);
        y.revalue(5, 0, 8, 7);
        check.dueState("issue: a later revaluation needs the units", () -> y.issue(2, 0, 3));
        check.due("issue: on the revaluation's day it is behind it", y.issue(5, 0, 10), 2);
        check.dueState("issue: the later issue takes all", () -> y.issue(1, 0, 1));
        Layerbook z = new Layerbook();
        z.receive(1, 0, 10, 100);
        z.issue(5, 0, 8);
        z.receive(4, 0, 8, 100);
        check.due("issue: a later receipt brings enough for the later issue", z.issue(3, 0, 10), 3);
    }

    /** Promise 4. */
    private static void revalue() {
        Layerbook x = new Layerbook();
        x.receive(5, 2, 10, 1000);
        x.receive(5, 2, 10, 500);
        check.due("revalue: the number", x.revalue(6, 2, 12, 600), 2);
        check.due("revalue: the kind", x.kindOf(2), Layerbook.REVALUATION);
        check.due("revalue: on hand as before", x.onHand(2, 6), 20);
        check.due("revalue: its layer and the rest", x.layers(2, 6), 2);
        check.due("revalue: its layer is at the front", x.layerOrigin(2, 6, 0), 2);
        check.due("revalue: the layer's quantity", x.layerQuantity(2, 6, 0), 12);
        check.due("revalue: the layer's cost", x.layerCost(2, 6, 0), 600);
        check.due("revalue: the rest's cost", x.layerCost(2, 6, 1), 400);
        check.due("revalue: 600 - 1000 - 100", x.revalued(2, 6, false), -500);
        check.due("revalue: 600 - 1500 * 12 / 20", x.revalued(2, 6, true), -300);
        check.due("revalue: the average's value", x.value(2, 6, true), 1200);
        check.due("revalue: all, at no cost", x.revalue(6, 2, 20, 0), 3);
        check.due("revalue: one layer of all", x.layers(2, 6), 1);
        check.due("revalue: without value", x.value(2, 6, false), 0);
        check.due("revalue: without value by average", x.value(2, 6, true), 0);
        x.receive(6, 2, 1, 5);
        check.due("revalue: a receipt goes behind its layer", x.layerOrigin(2, 6, 1), 4);
        x.issue(7, 2, 20);
        check.due("revalue: the layer is issued first", x.layerOrigin(2, 7, 0), 4);
    }

    private static void revalueWrong() {
        Layerbook x = new Layerbook();
        x.receive(5, 0, 1000, 1);
        x.receive(6, 0, 1, 1);
        check.dueArgument("revalue: day -1", () -> x.revalue(-1, 0, 1, 1));
        check.dueArgument("revalue: day 365", () -> x.revalue(365, 0, 1, 1));
        check.dueArgument("revalue: item -1", () -> x.revalue(5, -1, 1, 1));
        check.dueArgument("revalue: item 6", () -> x.revalue(5, 6, 1, 1));
        check.dueArgument("revalue: quantity 0", () -> x.revalue(5, 0, 0, 1));
        check.dueArgument("revalue: quantity 1001, though it is on hand", () -> x.revalue(6, 0, 1001, 1));
        check.dueArgument("revalue: cost -1", () -> x.revalue(5, 0, 1, -1));
        check.dueArgument("revalue: cost 1000001", () -> x.revalue(5, 0, 1, 1000001));
        check.dueState("revalue: ahead of the receipt", () -> x.revalue(4, 0, 1, 1));
        check.dueState("revalue: another item", () -> x.revalue(5, 1, 1, 1));
        x.issue(6, 0, 2);
        check.dueState("revalue: more than on hand", () -> x.revalue(6, 0, 1000, 1));
        check.due("revalue: all that is on hand, at the greatest cost", x.revalue(6, 0, 999, 1000000), 3);
        check.due("revalue: units that a later issue takes", x.revalue(5, 0, 1000, 3), 4);
        check.due("revalue: posted", x.movements(), 5);
        x.close(6);
        check.dueState("revalue: a closed day", () -> x.revalue(6, 0, 1, 1));
        check.dueArgument("revalue: a wrong argument goes ahead of closed books", () -> x.revalue(6, 0, 1, -1));
        check.due("revalue: behind the closed day", x.revalue(7, 0, 1, 1), 5);
    }

    /** Promise 5, with the document's terms on landed costs. */
    private static void landSpreads() {
        Layerbook x = new Layerbook();
        x.receive(0, 0, 6, 100);
        x.receive(0, 1, 3, 300);
        x.receive(1, 2, 1, 0);
        check.due("land: by quantity", x.land(1, 100, Layerbook.BY_QUANTITY, 7), 3);
        check.due("land: the kind", x.kindOf(3), Layerbook.LANDED_COST);
        check.due("land: 100 * 6 / 10", x.partOf(3, 0), 60);
        check.due("land: 100 * 3 / 10", x.partOf(3, 1), 30);
        check.due("land: 100 * 1 / 10", x.partOf(3, 2), 10);
        check.due("land: by cost", x.land(1, 100, Layerbook.BY_COST, 7), 4);
        check.due("land: 100 * 100 / 400, landed costs do not count", x.partOf(4, 0), 25);
        check.due("land: 100 * 300 / 400", x.partOf(4, 1), 75);
        check.due("land: no cost", x.partOf(4, 2), 0);
        x.setWeight(2, 11);
        check.due("land: by weight", x.land(1, 100, Layerbook.BY_WEIGHT, 7), 5);
        check.due("land: 100 * 6 / 20", x.partOf(5, 0), 30);
        check.due("land: 100 * 3 / 20", x.partOf(5, 1), 15);
        check.due("land: 100 * 11 / 20", x.partOf(5, 2), 55);
        x.setWeight(2, 1);
        check.due("land: a later weight changes no part", x.partOf(5, 2), 55);
        check.due("land: only one of them", x.land(1, 9, Layerbook.BY_QUANTITY, 2), 6);
        check.due("land: it gets all", x.partOf(6, 1), 9);
        check.due("land: the others get nothing", x.partOf(6, 0), 0);
        x.receive(1, 3, 1, 1);
        check.due("land: the least sum of the basis, 1", x.land(1, 8, Layerbook.BY_COST, 1 << 7), 8);
        check.due("land: all falls on it", x.partOf(8, 7), 8);
        check.due("land: what was received of item 0", x.received(0, 1), 100 + 60 + 25 + 30);
        check.due("land: the value of item 1", x.value(1, 1, false), 300 + 30 + 75 + 15 + 9);
        check.due("land: the average's value of item 2", x.value(2, 1, true), 10 + 55);
    }

    private static void landGivesCentsOut() {
        Layerbook x = new Layerbook();
        x.receive(0, 0, 1, 10);
        x.receive(0, 0, 1, 10);
        x.receive(0, 0, 1, 10);
        int alike = x.land(0, 2, Layerbook.BY_QUANTITY, 7);
        check.due("land: like remainders, the least number first", x.partOf(alike, 0), 1);
        check.due("land: like remainders, then the next", x.partOf(alike, 1), 1);
        check.due("land: like remainders, nothing is left", x.partOf(alike, 2), 0);
        int last = x.land(0, 1, Layerbook.BY_QUANTITY, 6);
        check.due("land: one cent over two", x.partOf(last, 1), 1);
        check.due("land: the second gets none", x.partOf(last, 2), 0);
        Layerbook y = new Layerbook();
        y.receive(0, 0, 2, 10);
        y.receive(0, 1, 3, 10);
        y.receive(0, 2, 3, 10);
        int greatest = y.land(0, 5, Layerbook.BY_QUANTITY, 7);
        check.due("land: 10 / 8, remainder 2", y.partOf(greatest, 0), 1);
        check.due("land: 15 / 8, remainder 7", y.partOf(greatest, 1), 2);
        check.due("land: 15 / 8, remainder 7 too", y.partOf(greatest, 2), 2);
        int one = y.land(0, 1, Layerbook.BY_QUANTITY, 7);
        check.due("land: remainders 2, 3, 3: not to the first", y.partOf(one, 0), 0);
        check.due("land: remainders 2, 3, 3: to the second", y.partOf(one, 1), 1);
        check.due("land: remainders 2, 3, 3: not to the third", y.partOf(one, 2), 0);
    }

    private static void landWithLargeNumbers() {
        Layerbook x = new Layerbook();
        x.receive(0, 0, 1000, 1000000);
        x.receive(0, 0, 1000, 999999);
        int landed = x.land(0, 1000000, Layerbook.BY_COST, 3);
        check.due("land: 1000000 * 1000000 / 1999999", x.partOf(landed, 0), 500000);
        check.due("land: 1000000 * 999999 / 1999999 and a cent", x.partOf(landed, 1), 500000);
        check.due("land: the value", x.value(0, 0, false), 1000000 + 999999 + 1000000);
        check.due("land: the value by average", x.value(0, 0, true), 1000000 + 999999 + 1000000);
    }

    private static void landWrong() {
        Layerbook x = new Layerbook();
        x.receive(9, 0, 5, 0);
        x.receive(8, 0, 5, 100);
        x.issue(9, 0, 1);
        x.receive(9, 1, 5, 1);
        x.cancel(3);
        check.dueArgument("land: day -1", () -> x.land(-1, 1, 0, 1));
        check.dueArgument("land: day 365", () -> x.land(365, 1, 0, 1));
        check.dueArgument("land: amount 0", () -> x.land(9, 0, 0, 1));
        check.dueArgument("land: amount 1000001", () -> x.land(9, 1000001, 0, 1));
        check.dueArgument("land: basis -1", () -> x.land(9, 1, -1, 1));
        check.dueArgument("land: basis 3", () -> x.land(9, 1, 3, 1));
        check.dueArgument("land: no receipts", () -> x.land(9, 1, 0, 0));
        check.dueArgument("land: a wrong argument goes ahead of a wrong bit", () -> x.land(9, 0, 0, 1L << 40));
        check.dueIndex("land: bit 4", () -> x.land(9, 1, 0, 1L << 4));
        check.dueIndex("land: bit 4 beside a good one", () -> x.land(9, 1, 0, 17));
        check.dueIndex("land: bit 63", () -> x.land(9, 1, 0, Long.MIN_VALUE));
        check.dueIndex("land: all bits", () -> x.land(9, 1, 0, -1));
        check.dueIndex("land: a wrong bit goes ahead of an issue", () -> x.land(9, 1, 0, 1L << 59 | 4));
        check.dueState("land: over an issue", () -> x.land(9, 1, 0, 5));
        check.dueState("land: over a cancelled receipt", () -> x.land(9, 1, 0, 8));
        check.dueState("land: over a later receipt", () -> x.land(8, 1, 0, 3));
        check.dueState("land: the sum of the basis is 0", () -> x.land(9, 1, Layerbook.BY_COST, 1));
        check.due("land: nothing was posted", x.movements(), 4);
        check.due("land: the sum of both is not 0", x.land(9, 1, Layerbook.BY_COST, 3), 4);
        check.dueState("land: over a landed cost", () -> x.land(9, 1, 0, 16));
        check.due("land: the greatest amount", x.land(364, 1000000, 0, 2), 5);
        x.close(20);
        check.dueState("land: a closed day", () -> x.land(20, 1, 0, 1));
        check.dueIndex("land: a wrong bit goes ahead of closed books", () -> x.land(20, 1, 0, 1L << 30));
        check.due("land: over a receipt of a closed day", x.land(21, 1, 0, 1), 6);
        Layerbook revalued = new Layerbook();
        revalued.receive(0, 0, 1, 1);
        revalued.revalue(0, 0, 1, 1);
        check.dueState("land: over a revaluation", () -> revalued.land(0, 1, 0, 2));
    }

    /** Promise 6. */
    private static void cancel() {
        Layerbook x = new Layerbook();
        x.receive(1, 0, 10, 100);
        x.receive(2, 0, 10, 300);
        x.issue(3, 0, 4);
        x.revalue(3, 0, 6, 600);
        x.land(4, 20, Layerbook.BY_QUANTITY, 3);
        check.due("cancel: a landed cost", x.cancel(4), 4);
        check.due("cancel: its parts are gone", x.received(0, 364), 400);
        check.due("cancel: nothing of it is expensed", x.expensed(0, 364, false), 0);
        check.due("cancel: a revaluation", x.cancel(3), 3);
        check.due("cancel: nothing is revalued", x.revalued(0, 364, true), 0);
        check.due("cancel: its layer is gone", x.layerOrigin(0, 364, 0), 0);
        check.due("cancel: a receipt that can be spared", x.cancel(0), 2);
        check.due("cancel: the issue takes the other one then", x.costOf(2, false), 120);
        check.due("cancel: on hand", x.onHand(0, 364), 6);
        check.due("cancel: an issue", x.cancel(2), 1);
        check.due("cancel: the last one", x.cancel(1), 0);
        check.due("cancel: nothing on hand", x.onHand(0, 364), 0);
        check.due("cancel: they keep their numbers", x.movements(), 5);
        check.due("cancel: a new one gets the next number", x.receive(0, 0, 1, 1), 5);
        check.due("cancel: it is alone in the ledger", x.placeOf(5), 0);
    }

    private static void cancelWrong() {
        Layerbook x = new Layerbook();
        x.receive(5, 0, 10, 100);
        x.receive(7, 0, 10, 0);
        check.dueIndex("cancel: -1", () -> x.cancel(-1));
        check.dueIndex("cancel: the next number", () -> x.cancel(2));
        check.dueIndex("cancel: 60", () -> x.cancel(60));
        check.dueIndex("cancel: the greatest number", () -> x.cancel(Integer.MAX_VALUE));
        check.due("cancel", x.cancel(1), 1);
        check.dueState("cancel: twice", () -> x.cancel(1));
        x.receive(7, 0, 10, 0);
        x.land(7, 10, Layerbook.BY_COST, 5);
        check.due("cancel: the part of a receipt without cost", x.partOf(3, 2), 0);
        check.dueState("cancel: a landed cost is spread over it, though its part is 0", () -> x.cancel(2));
        check.dueState("cancel: a landed cost is spread over it", () -> x.cancel(0));
        check.due("cancel: the landed cost", x.cancel(3), 2);
        check.due("cancel: then the receipt", x.cancel(2), 1);
        x.close(5);
        check.dueState("cancel: a closed day", () -> x.cancel(0));
        check.dueIndex("cancel: no such movement, with closed books", () -> x.cancel(9));
        check.due("cancel: it still stands", Check.bit(x.isCancelled(0)), 0);
        check.due("cancel: it has its place", x.placeOf(0), 0);
    }

    private static void cancelReceiptThatIsNeeded() {
        Layerbook x = new Layerbook();
        x.receive(1, 0, 10, 100);
        x.issue(2, 0, 4);
        x.receive(3, 0, 10, 100);
        check.dueState("cancel: an issue needs the receipt, though enough is on hand in the end", () -> x.cancel(0));
        check.due("cancel: the later receipt", x.cancel(2), 2);
        check.due("cancel: the issue", x.cancel(1), 1);
        x.revalue(2, 0, 10, 5);
        check.dueState("cancel: a revaluation needs the receipt", () -> x.cancel(0));
        x.receive(2, 0, 10, 5);
        check.dueState("cancel: a receipt behind the revaluation does not help", () -> x.cancel(0));
        check.due("cancel: the receipt behind it", x.cancel(4), 2);
        x.receive(1, 0, 10, 5);
        check.due("cancel: a receipt ahead of the revaluation helps", x.cancel(0), 2);
        Layerbook y = new Layerbook();
        y.receive(1, 0, 3, 1);
        y.issue(5, 0, 1);
        y.receive(1, 0, 3, 1);
        y.issue(5, 0, 3);
        check.dueState("cancel: the issues need 4 of 6", () -> y.cancel(0));
        y.receive(5, 0, 3, 1);
        check.dueState("cancel: a receipt behind the issues does not help", () -> y.cancel(2));
        Layerbook sameDay = new Layerbook();
        sameDay.receive(5, 0, 3, 1);
        sameDay.issue(5, 0, 3);
        sameDay.receive(5, 0, 3, 1);
        check.dueState("cancel: on the same day the issue is ahead of the second receipt", () -> sameDay.cancel(0));
        check.due("cancel: the second receipt", sameDay.cancel(2), 2);
    }

    /** Promise 7. */
    private static void close() {
        Layerbook x = new Layerbook();
        check.dueArgument("close: day -1", () -> x.close(-1));
        check.dueArgument("close: day 365", () -> x.close(365));
        check.due("close: the first time", x.close(0), Layerbook.NONE);
        check.dueState("close: day 0 again", () -> x.close(0));
        check.due("close: a later day", x.close(9), 0);
        check.dueState("close: the same day", () -> x.close(9));
        check.dueState("close: an earlier day", () -> x.close(8));
        check.dueArgument("close: a wrong day stays a wrong argument", () -> x.close(-1));
        check.dueState("close: the day is closed", () -> x.receive(9, 0, 1, 1));
        check.due("close: the next day is open", x.receive(10, 0, 1, 1), 0);
        check.due("close: the last day", x.close(364), 9);
        check.dueState("close: all is closed", () -> x.receive(364, 0, 1, 1));
        check.dueState("close: nothing can be cancelled", () -> x.cancel(0));
    }

    /** Promise 8. */
    private static void setWeight() {
        Layerbook x = new Layerbook();
        check.due("setWeight: it was 1", x.setWeight(5, 100), 1);
        check.due("setWeight: it was 100", x.setWeight(5, 1), 100);
        check.due("setWeight: other items keep theirs", x.setWeight(4, 2), 1);
        check.dueArgument("setWeight: item -1", () -> x.setWeight(-1, 1));
        check.dueArgument("setWeight: item 6", () -> x.setWeight(6, 1));
        check.dueArgument("setWeight: weight 0", () -> x.setWeight(4, 0));
        check.dueArgument("setWeight: weight 101", () -> x.setWeight(4, 101));
        check.due("setWeight: nothing was changed", x.setWeight(4, 2), 2);
    }

    private static void sixtyMovements() {
        Layerbook x = new Layerbook();
        for (int number = 0; number < 59; number++) {
            check.due("60: receive", x.receive(0, 0, 1, 1), number);
        }
        check.due("60: the last one", x.land(0, 59, Layerbook.BY_QUANTITY, (1L << 59) - 1), 59);
        check.due("60: the last receipt's part", x.partOf(59, 58), 1);
        check.dueState("60: receive", () -> x.receive(0, 0, 1, 1));
        check.dueState("60: issue", () -> x.issue(0, 0, 1));
        check.dueState("60: revalue", () -> x.revalue(0, 0, 1, 1));
        check.dueState("60: land", () -> x.land(0, 1, 0, 1));
        check.dueState("60: land over the last movement", () -> x.land(0, 1, 0, 1L << 59));
        check.dueIndex("60: land over bit 60", () -> x.land(0, 1, 0, 1L << 60));
        check.dueArgument("60: a wrong argument", () -> x.issue(0, 0, 0));
        check.due("60: available leaves the number aside", x.available(0, 0), 59);
        check.due("60: layers", x.layers(0, 0), 59);
        check.due("60: cancelled", x.cancel(59), 59);
        check.dueState("60: a cancelled one keeps its number", () -> x.receive(0, 0, 1, 1));
        check.due("60: movements", x.movements(), 60);
    }
}
