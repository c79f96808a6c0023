/** Promises 9 to 15: what was posted. */
public final class PostedTest {
    private static final Check check = new Check();

    public static void main(String[] args) {
        Layerbook x = new Layerbook();
        x.receive(30, 1, 4, 40);
        x.receive(20, 1, 4, 10);
        x.issue(30, 1, 5);
        x.revalue(25, 1, 2, 9);
        x.land(30, 5, Layerbook.BY_QUANTITY, 3);
        movements(x);
        kindOf(x);
        dayOf(x);
        isCancelled(x);
        placeOf();
        partOf(x);
        costOf();
        costOfAfterLaterPostings();
        check.end();
    }

    /** Promise 9. */
    private static void movements(Layerbook x) {
        check.due("movements()", x.movements(), 5);
        check.dueState("movements: a call that throws", () -> x.issue(0, 1, 1));
        check.due("movements() after it", x.movements(), 5);
        Layerbook y = new Layerbook();
        y.receive(0, 0, 1, 1);
        y.cancel(0);
        check.due("movements() with a cancelled one", y.movements(), 1);
    }

    /** Promise 10. */
    private static void kindOf(Layerbook x) {
        check.due("kindOf(0)", x.kindOf(0), 0);
        check.due("kindOf(2)", x.kindOf(2), 1);
        check.due("kindOf(3)", x.kindOf(3), 2);
        check.due("kindOf(4)", x.kindOf(4), 3);
        check.dueIndex("kindOf(-1)", () -> x.kindOf(-1));
        check.dueIndex("kindOf(5)", () -> x.kindOf(5));
        check.dueIndex("kindOf of the least number", () -> x.kindOf(Integer.MIN_VALUE));
        check.dueIndex("kindOf(60)", () -> x.kindOf(60));
    }

    /** Promise 11. */
    private static void dayOf(Layerbook x) {
        check.due("dayOf(0)", x.dayOf(0), 30);
        check.due("dayOf(1)", x.dayOf(1), 20);
        check.due("dayOf(3)", x.dayOf(3), 25);
        check.due("dayOf(4)", x.dayOf(4), 30);
        check.dueIndex("dayOf(-1)", () -> x.dayOf(-1));
        check.dueIndex("dayOf(5)", () -> x.dayOf(5));
        check.dueIndex("dayOf(61)", () -> x.dayOf(61));
    }

    /** Promise 12. */
    private static void isCancelled(Layerbook x) {
        check.due("isCancelled(0)", Check.bit(x.isCancelled(0)), 0);
        check.dueIndex("isCancelled(-1)", () -> Check.bit(x.isCancelled(-1)));
        check.dueIndex("isCancelled(5)", () -> Check.bit(x.isCancelled(5)));
        Layerbook y = new Layerbook();
        y.receive(3, 0, 1, 1);
        y.issue(4, 0, 1);
        y.cancel(1);
        check.due("isCancelled(1), cancelled", Check.bit(y.isCancelled(1)), 1);
        check.due("isCancelled(0), not cancelled", Check.bit(y.isCancelled(0)), 0);
        check.due("kindOf(1), cancelled", y.kindOf(1), Layerbook.ISSUE);
        check.due("dayOf(1), cancelled", y.dayOf(1), 4);
        check.due("a cancelled issue takes nothing", y.onHand(0, 364), 1);
    }

    /** Promise 13. */
    private static void placeOf() {
        Layerbook x = new Layerbook();
        x.receive(30, 1, 4, 40);
        x.receive(20, 1, 4, 10);
        x.receive(30, 2, 5, 1);
        x.receive(20, 3, 2, 9);
        x.receive(364, 1, 1, 1);
        x.receive(0, 1, 1, 1);
        check.due("placeOf(5), day 0", x.placeOf(5), 0);
        check.due("placeOf(1), day 20", x.placeOf(1), 1);
        check.due("placeOf(3), day 20, greater number", x.placeOf(3), 2);
        check.due("placeOf(0), day 30", x.placeOf(0), 3);
        check.due("placeOf(2), day 30, greater number", x.placeOf(2), 4);
        check.due("placeOf(4), day 364", x.placeOf(4), 5);
        x.cancel(1);
        check.due("placeOf(1), cancelled", x.placeOf(1), Layerbook.NONE);
        check.due("placeOf(5), ahead of the cancelled one", x.placeOf(5), 0);
        check.due("placeOf(3), behind it", x.placeOf(3), 1);
        check.due("placeOf(4), behind it", x.placeOf(4), 4);
        check.dueIndex("placeOf(-1)", () -> x.placeOf(-1));
        check.dueIndex("placeOf(6)", () -> x.placeOf(6));
    }

    /** Promise 14. */
    private static void partOf(Layerbook x) {
        check.due("partOf(4, 0)", x.partOf(4, 0), 3);
        check.due("partOf(4, 1)", x.partOf(4, 1), 2);
        check.due("partOf(4, 2), an issue", x.partOf(4, 2), 0);
        check.due("partOf(4, 3), a revaluation", x.partOf(4, 3), 0);
        check.due("partOf(4, 4), itself", x.partOf(4, 4), 0);
        check.dueIndex("partOf(5, 0)", () -> x.partOf(5, 0));
        check.dueIndex("partOf(-1, 0)", () -> x.partOf(-1, 0));
        check.dueIndex("partOf(4, 5)", () -> x.partOf(4, 5));
        check.dueIndex("partOf(4, -1)", () -> x.partOf(4, -1));
        check.dueIndex("partOf(0, 5): no such movement goes ahead", () -> x.partOf(0, 5));
        check.dueState("partOf(0, 4)", () -> x.partOf(0, 4));
        check.dueState("partOf(2, 0)", () -> x.partOf(2, 0));
        check.dueState("partOf(3, 0)", () -> x.partOf(3, 0));
        int later = x.receive(30, 1, 4, 40);
        check.due("partOf a receipt that was posted later", x.partOf(4, later), 0);
        x.cancel(4);
        check.due("partOf(4, 0), cancelled", x.partOf(4, 0), 3);
        check.due("partOf(4, 1), cancelled", x.partOf(4, 1), 2);
    }

    /** Promise 15. */
    private static void costOf() {
        Layerbook x = new Layerbook();
        x.receive(1, 0, 3, 100);
        x.receive(1, 1, 3, 50);
        int first = x.issue(2, 0, 1);
        int second = x.issue(2, 0, 2);
        check.due("costOf: 100 / 3, rounded down", x.costOf(first, false), 33);
        check.due("costOf: 100 / 3, rounded down, by average", x.costOf(first, true), 33);
        check.due("costOf: the rest", x.costOf(second, false), 67);
        check.due("costOf: the rest by average", x.costOf(second, true), 67);
        check.dueIndex("costOf(-1)", () -> x.costOf(-1, true));
        check.dueIndex("costOf(4)", () -> x.costOf(4, false));
        check.dueState("costOf a receipt", () -> x.costOf(0, false));
        int revaluation = x.revalue(3, 1, 3, 9);
        check.dueState("costOf a revaluation", () -> x.costOf(revaluation, true));
        int landed = x.land(3, 9, Layerbook.BY_QUANTITY, 1);
        check.dueState("costOf a landed cost", () -> x.costOf(landed, true));
        x.cancel(second);
        check.dueState("costOf a cancelled issue", () -> x.costOf(second, false));
        check.due("costOf: the other one still", x.costOf(first, false), 33);
    }

    private static void costOfAfterLaterPostings() {
        Layerbook x = new Layerbook();
        x.receive(10, 0, 10, 100);
        int issue = x.issue(10, 0, 5);
        x.receive(10, 0, 10, 1000);
        check.due("costOf: a later receipt of the day changes nothing", x.costOf(issue, true), 50);
        int landed = x.land(10, 100, Layerbook.BY_QUANTITY, 1);
        check.due("costOf: nor does a later landed cost of the day", x.costOf(issue, false), 50);
        x.receive(9, 0, 10, 300);
        check.due("costOf: a back-dated receipt is issued first", x.costOf(issue, false), 150);
        check.due("costOf: 400 * 5 / 20", x.costOf(issue, true), 100);
        x.revalue(9, 0, 2, 7);
        check.due("costOf: a back-dated revaluation, 7 + 240 * 3 / 8", x.costOf(issue, false), 97);
        check.due("costOf: (300 - 60 + 7 + 100) * 5 / 20", x.costOf(issue, true), 86);
        x.cancel(landed);
        check.due("costOf: cancelling what is behind changes nothing", x.costOf(issue, false), 97);
    }
}
