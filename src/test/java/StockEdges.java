import java.util.List;

/** Promises 16 to 26, sentence by sentence. */
final class StockEdges extends Edges {
    private interface Figure {
        long on(Layerbook book, int item, int day);
    }

    private interface LayerFigure {
        long on(Layerbook book, int item, int day, int layer);
    }

    private static final int BY_QUANTITY = Layerbook.BY_QUANTITY;

    private static final Scene NEW = Scene.NEW, STOCKED = Scene.STOCKED, MIXED = Scene.MIXED, CLOSED = Scene.CLOSED, FULL = Scene.FULL;

    /** The figures change on the days 0, 10, 20, 30, 40 and 364; in between they stay. */
    private static final Scene YEAR = NEW.then("a year of item 0", b -> {
        b.receive(0, 0, 3, 100);
        b.receive(10, 0, 4, 50);
        b.issue(20, 0, 5);
        b.revalue(30, 0, 1, 7);
        b.land(40, 20, BY_QUANTITY, 3);
        b.issue(364, 0, 2);
    });
    private static final Scene SIXTY_LAYERS = NEW.then("60 layers", b -> {
        for (int number = 0; number < 60; number++) {
            b.receive(0, 0, 1, number);
        }
    });
    private static final int[] DAYS = {0, 9, 10, 19, 20, 29, 30, 39, 40, 363, 364};

    StockEdges(Check check, Document document) {
        super(check, document);
    }

    void run() {
        onHand();
        available();
        availableWithLaterMovements();
        value();
        received();
        issued();
        revalued();
        expensed();
        layers();
        layerQuantity();
        layerCost();
        layerOrigin();
    }

    /** A figure's answers on the days of YEAR, and on books without the item. */
    private void year(Argument onDay, long... answers) {
        for (int index = 0; index < DAYS.length; index++) {
            int day = DAYS[index];
            due("day " + day, YEAR, b -> onDay.on(b, day), answers[index]);
        }
        Layerbook asked = YEAR.make();
        for (int question = 0; question < 3 * DAYS.length; question++) {
            int index = (question * 4 + 10) % DAYS.length;
            due("asked again and again, day " + DAYS[index], onDay.on(asked, DAYS[index]), answers[index]);
        }
        due("the first day", NEW, b -> onDay.on(b, 0), 0);
        due("the last day", NEW, b -> onDay.on(b, 364), 0);
    }

    /** Where every item has 1000 units from day 0 on, the figure is the same on the first and the last day. */
    private void ranges(int promise, Figure figure, long first, long last) {
        range(promise, "`item`: 0 to 5", 0, 5, STOCKED, (b, item) -> figure.on(b, item, 0), first, last);
        range(promise, "`day`: 0 to 364", 0, 364, STOCKED, (b, day) -> figure.on(b, 5, day), last, last);
    }

    private void argumentOutOfRange(int promise, Figure figure) {
        about(promise, "an argument is out of range");
        for (Scene scene : Scene.ALL) {
            refusedArgument("both", scene, b -> figure.on(b, 6, 365));
            refusedArgument("both, below", scene, b -> figure.on(b, -1, -1));
        }
    }

    /** Promise 16. */
    private void onHand() {
        ranges(16, (b, item, day) -> b.onHand(item, day), 1000, 1000);
        argumentOutOfRange(16, (b, item, day) -> b.onHand(item, day));
        about(16, "Returns the quantity on hand.");
        year((b, day) -> b.onHand(0, day), 3, 3, 7, 7, 2, 2, 2, 2, 2, 2, 0);
        due("another item", YEAR, b -> b.onHand(1, 364), 0);
        due("60 movements", FULL, b -> b.onHand(2, 9), 50);
        due("60 movements, the day ahead", FULL, b -> b.onHand(2, 8), 0);
        due("closed books", CLOSED, b -> b.onHand(0, 4), 8);
        Scene greatest = NEW.then("60000 units", b -> {
            for (int number = 0; number < 60; number++) {
                b.receive(0, 5, 1000, 1);
            }
        });
        due("as many as there can be", greatest, b -> b.onHand(5, 364), 60000);
    }

    /** Promise 17. */
    private void available() {
        ranges(17, (b, item, day) -> b.available(item, day), 1000, 1000);
        argumentOutOfRange(17, (b, item, day) -> b.available(item, day));
        about(17, "Returns the greatest quantity, up to 1000, that issue() would post for the day, leaving closed books and the number of movements aside; 0 if it would post none.");
        year((b, day) -> b.available(0, day), 0, 0, 0, 0, 0, 0, 0, 0, 0, 0, 0);
        for (int units : List.of(1, 999, 1000)) {
            Scene scene = NEW.then(units + " units", b -> b.receive(5, 0, units, 1));
            due("up to 1000", scene, b -> b.available(0, 5), units);
            due("on the last day", scene, b -> b.available(0, 364), units);
            due("on the day ahead", scene, b -> b.available(0, 4), 0);
            due("it is posted", scene, b -> b.issue(5, 0, b.available(0, 5)), 1);
        }
        Scene above = NEW.then("1001 units", b -> {
            b.receive(5, 0, 1000, 1);
            b.receive(5, 0, 1, 1);
        });
        due("up to 1000, though 1001 are on hand", above, b -> b.available(0, 5), 1000);
        due("it is posted", above, b -> b.issue(5, 0, b.available(0, 5)), 2);
        due("closed books are left aside", CLOSED, b -> b.available(0, 6), 11);
        due("closed books are left aside, an earlier day", CLOSED, b -> b.available(0, 3), 2);
        refusedState("though issue() posts none in closed books", CLOSED, b -> b.issue(6, 0, 11));
        due("the number of movements is left aside", FULL, b -> b.available(2, 9), 50);
        due("the number of movements is left aside, the day ahead", FULL, b -> b.available(2, 8), 0);
        refusedState("though issue() posts none behind 60 movements", FULL, b -> b.issue(9, 2, 50));
    }

    private void availableWithLaterMovements() {
        Scene ten = NEW.then("10 units", b -> b.receive(5, 0, 10, 1));
        Scene nine = ten.then("9 of 10 issued later", b -> b.issue(8, 0, 9));
        due("a later issue leaves one", nine, b -> b.available(0, 5), 1);
        due("it is posted", nine, b -> b.issue(5, 0, 1), 2);
        refusedState("one more is not", nine, b -> b.issue(5, 0, 2));
        Scene all = ten.then("10 of 10 issued later", b -> b.issue(8, 0, 10));
        due("a later issue leaves none", all, b -> b.available(0, 5), 0);
        refusedState("none is posted", all, b -> b.issue(5, 0, 1));
        Scene revalued = ten.then("9 of 10 revalued later", b -> b.revalue(8, 0, 9, 1));
        due("a later revaluation leaves one", revalued, b -> b.available(0, 7), 1);
        due("of its day, behind it", revalued, b -> b.available(0, 8), 10);
        due("it is posted behind it", revalued, b -> b.issue(8, 0, 10), 2);
        Scene allRevalued = ten.then("10 of 10 revalued later", b -> b.revalue(8, 0, 10, 1));
        due("a later revaluation leaves none", allRevalued, b -> b.available(0, 7), 0);
        Scene many = NEW.then("2000 units, 999 issued later", b -> {
            b.receive(5, 0, 1000, 1);
            b.receive(5, 0, 1000, 1);
            b.issue(8, 0, 999);
        });
        due("1000 of 1001 that are left", many, b -> b.available(0, 5), 1000);
        Scene more = many.then("two more issued later", b -> b.issue(9, 0, 2));
        due("999 that are left", more, b -> b.available(0, 5), 999);
        Scene helped = nine.then("9 more ahead of the issue", b -> b.receive(8, 0, 9, 1));
        due("a receipt behind the issue does not help", helped, b -> b.available(0, 7), 1);
        Scene early = nine.then("9 more ahead of the issue", b -> b.receive(7, 0, 9, 1));
        due("a receipt ahead of the issue does", early, b -> b.available(0, 6), 10);
        Scene gone = nine.then("the issue cancelled", b -> b.cancel(1));
        due("a cancelled issue takes none", gone, b -> b.available(0, 5), 10);
        due("another item", nine, b -> b.available(1, 8), 0);
    }

    /** Promise 18. */
    private void value() {
        ranges(18, (b, item, day) -> b.value(item, day, false), 0, 50);
        ranges(18, (b, item, day) -> b.value(item, day, true), 0, 50);
        argumentOutOfRange(18, (b, item, day) -> b.value(item, day, false));
        argumentOutOfRange(18, (b, item, day) -> b.value(item, day, true));
        about(18, "Returns the value of the stock: the cost of all layers together, or the value of the moving average.");
        year((b, day) -> b.value(0, day, false), 100, 100, 150, 150, 25, 25, 20, 20, 22, 22, 0);
        year((b, day) -> b.value(0, day, true), 100, 100, 150, 150, 43, 43, 29, 29, 40, 40, 0);
        due("60 movements", FULL, b -> b.value(2, 9, false), 50);
        due("60 movements by average", FULL, b -> b.value(2, 9, true), 50);
        Scene greatest = NEW.then("59 receipts at the greatest cost and one landed cost", b -> {
            for (int number = 0; number < 59; number++) {
                b.receive(0, 5, 1, 1000000);
            }
            b.land(0, 1000000, BY_QUANTITY, 1L << 58);
        });
        due("as much as there can be", greatest, b -> b.value(5, 364, false), 60000000);
        due("as much as there can be, by average", greatest, b -> b.value(5, 364, true), 60000000);
    }

    /** Promise 19. */
    private void received() {
        ranges(19, (b, item, day) -> b.received(item, day), 0, 50);
        argumentOutOfRange(19, (b, item, day) -> b.received(item, day));
        about(19, "Returns the cost of all receipts, and all parts of landed costs, together.");
        year((b, day) -> b.received(0, day), 100, 100, 150, 150, 150, 150, 150, 150, 170, 170, 170);
        due("a part of it falls on another item", MIXED, b -> b.received(1, 5), 41 + 32);
        due("the day ahead of the landed cost", MIXED, b -> b.received(1, 4), 41);
        due("a cancelled landed cost has no effect", MIXED, b -> b.received(0, 364), 133 + 18);
        due("a cancelled receipt has no effect", NEW.then("none left", b -> b.cancel(b.receive(0, 0, 1, 9))), b -> b.received(0, 364), 0);
        due("60 movements", FULL, b -> b.received(2, 364), 50);
        Scene gone = NEW.then("a landed cost that is expensed", b -> {
            b.receive(0, 0, 1, 5);
            b.issue(0, 0, 1);
            b.land(0, 3, BY_QUANTITY, 1);
        });
        due("a part that is expensed is one", gone, b -> b.received(0, 0), 8);
    }

    /** Promise 20. */
    private void issued() {
        ranges(20, (b, item, day) -> b.issued(item, day, false), 0, 0);
        ranges(20, (b, item, day) -> b.issued(item, day, true), 0, 0);
        argumentOutOfRange(20, (b, item, day) -> b.issued(item, day, false));
        argumentOutOfRange(20, (b, item, day) -> b.issued(item, day, true));
        about(20, "Returns the cost of all issues.");
        year((b, day) -> b.issued(0, day, false), 0, 0, 0, 0, 125, 125, 125, 125, 125, 125, 147);
        year((b, day) -> b.issued(0, day, true), 0, 0, 0, 0, 107, 107, 107, 107, 107, 107, 147);
        due("60 movements", FULL, b -> b.issued(0, 364, false), 53);
        due("60 movements by average", FULL, b -> b.issued(0, 364, true), 62);
        due("a cancelled issue has no effect", MIXED, b -> b.issued(0, 364, false), 53);
        due("a cancelled issue has no effect, by average", MIXED, b -> b.issued(0, 364, true), 62);
        Scene all = STOCKED.then("all of item 5 issued", b -> b.issue(364, 5, 1000));
        due("all that was received", all, b -> b.issued(5, 364, false), 50);
        due("all that was received, by average", all, b -> b.issued(5, 364, true), 50);
        due("the day ahead", all, b -> b.issued(5, 363, true), 0);
    }

    /** Promise 21. */
    private void revalued() {
        ranges(21, (b, item, day) -> b.revalued(item, day, false), 0, 0);
        ranges(21, (b, item, day) -> b.revalued(item, day, true), 0, 0);
        argumentOutOfRange(21, (b, item, day) -> b.revalued(item, day, false));
        argumentOutOfRange(21, (b, item, day) -> b.revalued(item, day, true));
        about(21, "Returns the revaluations, which can be negative.");
        year((b, day) -> b.revalued(0, day, false), 0, 0, 0, 0, 0, 0, -5, -5, -5, -5, -5);
        year((b, day) -> b.revalued(0, day, true), 0, 0, 0, 0, 0, 0, -14, -14, -14, -14, -14);
        due("60 movements, 77 - 80 * 6 / 8", FULL, b -> b.revalued(0, 364, false), 17);
        due("60 movements by average, 77 - 71 * 6 / 8", FULL, b -> b.revalued(0, 364, true), 24);
        Scene cheap = NEW.then("the greatest cost revalued at no cost", b -> {
            b.receive(0, 0, 1, 1000000);
            b.revalue(364, 0, 1, 0);
        });
        due("as far below 0 as one goes", cheap, b -> b.revalued(0, 364, false), -1000000);
        due("as far below 0 as one goes, by average", cheap, b -> b.revalued(0, 364, true), -1000000);
        due("the day ahead", cheap, b -> b.revalued(0, 363, false), 0);
        Scene back = cheap.then("and back", b -> b.revalue(364, 0, 1, 1000000));
        due("both together", back, b -> b.revalued(0, 364, false), 0);
        due("both together by average", back, b -> b.revalued(0, 364, true), 0);
        Scene twice = back.then("and once more", b -> b.revalue(364, 0, 1, 1000000));
        due("at the same cost", twice, b -> b.revalued(0, 364, true), 0);
        Scene up = NEW.then("no cost revalued at the greatest cost", b -> {
            b.receive(0, 0, 1, 0);
            b.revalue(0, 0, 1, 1000000);
        });
        due("as far above 0 as one goes", up, b -> b.revalued(0, 0, false), 1000000);
        due("a cancelled one has no effect", up.then("cancelled", b -> b.cancel(1)), b -> b.revalued(0, 0, false), 0);
    }

    /** Promise 22. */
    private void expensed() {
        ranges(22, (b, item, day) -> b.expensed(item, day, false), 0, 0);
        ranges(22, (b, item, day) -> b.expensed(item, day, true), 0, 0);
        argumentOutOfRange(22, (b, item, day) -> b.expensed(item, day, false));
        argumentOutOfRange(22, (b, item, day) -> b.expensed(item, day, true));
        about(22, "Returns how much of landed costs has been expensed.");
        year((b, day) -> b.expensed(0, day, false), 0, 0, 0, 0, 0, 0, 0, 0, 18, 18, 18);
        year((b, day) -> b.expensed(0, day, true), 0, 0, 0, 0, 0, 0, 0, 0, 9, 9, 9);
        due("60 movements, 12 - 12 * 2 / 10 and 6", FULL, b -> b.expensed(0, 364, false), 16);
        due("60 movements by average, 12 - 12 * 8 / 10", FULL, b -> b.expensed(0, 364, true), 3);
        Scene landed = STOCKED.then("landed on all of item 5", b -> b.land(364, 1000000, BY_QUANTITY, 1L << 5));
        due("none, as all is on hand", landed, b -> b.expensed(5, 364, false), 0);
        due("none, as all is on hand, by average", landed, b -> b.expensed(5, 364, true), 0);
        Scene used = STOCKED.then("landed on item 5 when all is issued", b -> {
            b.issue(364, 5, 1000);
            b.land(364, 1000000, BY_QUANTITY, 1L << 5);
        });
        due("all, as none is on hand", used, b -> b.expensed(5, 364, false), 1000000);
        due("all, as none is on hand, by average", used, b -> b.expensed(5, 364, true), 1000000);
        due("the day ahead", used, b -> b.expensed(5, 363, true), 0);
        due("another item", used, b -> b.expensed(4, 364, true), 0);
        due("a cancelled one has no effect", used.then("cancelled", b -> b.cancel(7)), b -> b.expensed(5, 364, false), 0);
        Scene one = STOCKED.then("landed on item 5 when one unit is left", b -> {
            b.issue(0, 5, 999);
            b.land(0, 999, BY_QUANTITY, 1L << 5);
        });
        due("999 / 1000 of a cent is none", one, b -> b.expensed(5, 0, false), 999);
        due("999 / 1000 of a cent is none, by average", one, b -> b.expensed(5, 0, true), 999);
    }

    /** Promise 23. */
    private void layers() {
        ranges(23, (b, item, day) -> b.layers(item, day), 1, 1);
        argumentOutOfRange(23, (b, item, day) -> b.layers(item, day));
        about(23, "Returns the number of cost layers.");
        year((b, day) -> b.layers(0, day), 1, 1, 2, 2, 1, 1, 2, 2, 2, 2, 0);
        due("60 movements", FULL, b -> b.layers(2, 9), 50);
        due("as many as there can be", SIXTY_LAYERS, b -> b.layers(0, 0), 60);
        due("another item", SIXTY_LAYERS, b -> b.layers(1, 0), 0);
    }

    /** What the three questions about one layer have in common. */
    private void oneLayer(int promise, LayerFigure figure, long first, long last) {
        range(promise, "`item`: 0 to 5", 0, 5, STOCKED, (b, item) -> figure.on(b, item, 0, 0), first, last);
        range(promise, "`day`: 0 to 364", 0, 364, STOCKED, (b, day) -> figure.on(b, 5, day, 0), last, last);
        about(promise, "item or day is out of range");
        for (Scene scene : Scene.ALL) {
            refusedArgument("the item, with no such layer", scene, b -> figure.on(b, 6, 0, -1));
            refusedArgument("the day, with no such layer", scene, b -> figure.on(b, 0, 365, 60));
            refusedArgument("both, with no such layer", scene, b -> figure.on(b, -1, -1, Integer.MAX_VALUE));
        }
        about(promise, "there is no such layer");
        for (int layer : List.of(-1, 0, 1, Integer.MIN_VALUE, Integer.MAX_VALUE)) {
            refusedIndex("layer " + layer, NEW, b -> figure.on(b, 0, 0, layer));
        }
        for (int layer : List.of(-1, 1, 2, Integer.MIN_VALUE, Integer.MAX_VALUE)) {
            refusedIndex("layer " + layer, STOCKED, b -> figure.on(b, 5, 364, layer));
        }
        for (int layer : List.of(-1, 50, 51, 59, 60, Integer.MIN_VALUE, Integer.MAX_VALUE)) {
            refusedIndex("layer " + layer, FULL, b -> figure.on(b, 2, 9, layer));
        }
        refusedIndex("layer 60 of 60", SIXTY_LAYERS, b -> figure.on(b, 0, 0, 60));
        refusedIndex("the day ahead", FULL, b -> figure.on(b, 2, 8, 0));
        refusedIndex("another item", FULL, b -> figure.on(b, 5, 9, 0));
        refusedIndex("the second one, the day ahead of it", YEAR, b -> figure.on(b, 0, 9, 1));
        refusedIndex("the second one, used up by now", YEAR, b -> figure.on(b, 0, 20, 1));
        refusedIndex("the first one, all used up by now", YEAR, b -> figure.on(b, 0, 364, 0));
    }

    private void layerAnswers(LayerFigure figure, long[] first, long[] second) {
        int[] days = {10, 20, 30, 40, 363};
        for (int index = 0; index < days.length; index++) {
            int day = days[index];
            due("the first, day " + day, YEAR, b -> figure.on(b, 0, day, 0), first[index]);
            if (day != 20) {
                due("the second, day " + day, YEAR, b -> figure.on(b, 0, day, 1), second[index]);
            }
        }
    }

    /** Promise 24. */
    private void layerQuantity() {
        oneLayer(24, (b, item, day, layer) -> b.layerQuantity(item, day, layer), 1000, 1000);
        about(24, "`layer`: 0 for the first one of the queue");
        due("the first of 50", FULL, b -> b.layerQuantity(2, 9, 0), 1);
        due("the last of 50", FULL, b -> b.layerQuantity(2, 9, 49), 1);
        due("the last of 60", SIXTY_LAYERS, b -> b.layerQuantity(0, 0, 59), 1);
        about(24, "Returns the quantity of a cost layer.");
        layerAnswers((b, item, day, layer) -> b.layerQuantity(item, day, layer), new long[] {3, 2, 1, 1, 1}, new long[] {4, 0, 1, 1, 1});
        due("one unit less is left", STOCKED.then("one issued", b -> b.issue(0, 0, 1)), b -> b.layerQuantity(0, 0, 0), 999);
        due("one unit is left", STOCKED.then("999 issued", b -> b.issue(0, 0, 999)), b -> b.layerQuantity(0, 0, 0), 1);
    }

    /** Promise 25. */
    private void layerCost() {
        oneLayer(25, (b, item, day, layer) -> b.layerCost(item, day, layer), 0, 50);
        about(25, "`layer`: 0 for the first one of the queue");
        due("the first of 50", FULL, b -> b.layerCost(2, 9, 0), 1);
        due("the last of 50", FULL, b -> b.layerCost(2, 9, 49), 1);
        due("the last of 60", SIXTY_LAYERS, b -> b.layerCost(0, 0, 59), 59);
        about(25, "Returns the cost of a cost layer.");
        layerAnswers((b, item, day, layer) -> b.layerCost(item, day, layer), new long[] {100, 25, 7, 7, 7}, new long[] {50, 0, 13, 15, 15});
        Scene dear = NEW.then("one unit of the greatest cost with 59 landed costs", b -> {
            b.receive(0, 0, 1, 1000000);
            for (int number = 1; number < 60; number++) {
                b.land(0, 1000000, BY_QUANTITY, 1);
            }
        });
        due("as much as a layer can cost", dear, b -> b.layerCost(0, 0, 0), 60000000);
    }

    /** Promise 26. */
    private void layerOrigin() {
        oneLayer(26, (b, item, day, layer) -> b.layerOrigin(item, day, layer), 0, 5);
        about(26, "`layer`: 0 for the first one of the queue");
        due("the first of 50", FULL, b -> b.layerOrigin(2, 9, 0), 10);
        due("the last of 50", FULL, b -> b.layerOrigin(2, 9, 49), 59);
        due("the last of 60", SIXTY_LAYERS, b -> b.layerOrigin(0, 0, 59), 59);
        about(26, "Returns the movement that made a cost layer: a receipt or a revaluation.");
        layerAnswers((b, item, day, layer) -> b.layerOrigin(item, day, layer), new long[] {0, 1, 3, 3, 3}, new long[] {1, 0, 1, 1, 1});
        due("a revaluation of all", MIXED.then("all revalued", b -> b.revalue(364, 0, 11, 1)), b -> b.layerOrigin(0, 364, 0), 10);
    }
}
