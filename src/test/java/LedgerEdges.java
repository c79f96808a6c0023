import java.util.List;

/** What the document says ahead of its promises, sentence by sentence. */
final class LedgerEdges extends Edges {
    private static final int BY_QUANTITY = Layerbook.BY_QUANTITY, BY_COST = Layerbook.BY_COST, BY_WEIGHT = Layerbook.BY_WEIGHT;

    private static final Scene NEW = Scene.NEW, STOCKED = Scene.STOCKED, MIXED = Scene.MIXED, CLOSED = Scene.CLOSED, FULL = Scene.FULL;

    /** First in first out takes 100, by average 60 are taken. */
    private static final Scene TWO_LAYERS = NEW.then("5 units for 100, 5 for 20, 5 issued", b -> {
        b.receive(1, 0, 5, 100);
        b.receive(2, 0, 5, 20);
        b.issue(3, 0, 5);
    });

    LedgerEdges(Check check, Document document) {
        super(check, document);
    }

    void run() {
        callsOfAnObject();
        anyOrderOfDays();
        bothMethods();
        daysAndItems();
        divisions();
        whatThrowsFirst();
        whatThrowsChangesNothing();
        numbers();
        cancelledMovements();
        order();
        quantityOnHand();
        validity();
        closedBooks();
        layers();
        taking();
        layersOfMovements();
        average();
        averageOfRevaluations();
        bases();
        cents();
        partsStay();
        partsOfLayers();
        partsOfTheAverage();
        constants();
    }

    private void callsOfAnObject() {
        about(0, "An object is used for at most 512 calls after it has been made; what later calls answer is free.");
        Layerbook asked = new Layerbook();
        asked.receive(1, 0, 10, 100);
        for (int call = 2; call < 511; call++) {
            due("call " + call, asked.onHand(0, 1), 10);
        }
        due("call 511", asked.issue(1, 0, 3), 1);
        due("call 512", asked.value(0, 1, false), 70);
        Layerbook posted = new Layerbook();
        Layerbook refused = new Layerbook();
        for (int call = 1; call < 512; call++) {
            due("call " + call, posted.setWeight(0, 1), 1);
            due("call " + call, refused.layers(0, 0), 0);
        }
        due("call 512", posted.receive(0, 0, 1, 1), 0);
        due("call 512 throws", Check.bit(throwsState(refused)), 1);
    }

    private static boolean throwsState(Layerbook book) {
        try {
            book.issue(0, 0, 1);
            return false;
        } catch (IllegalStateException e) {
            return true;
        }
    }

    private void anyOrderOfDays() {
        about(0, "Movements are posted with a day, in any order of days; quantities, values and cost layers can be asked for at the end of any day, and always take all movements into account that have been posted so far.");
        Layerbook book = new Layerbook();
        book.receive(364, 0, 4, 40);
        due("the last day", book.onHand(0, 364), 4);
        due("the day ahead of it", book.onHand(0, 363), 0);
        book.receive(0, 0, 4, 400);
        due("the day ahead of it, then", book.onHand(0, 363), 4);
        int issue = book.issue(364, 0, 4);
        due("the issue takes the back-dated layer", book.costOf(issue, false), 400);
        due("the issue by average", book.costOf(issue, true), 220);
        book.revalue(0, 0, 2, 10);
        due("the issue with the back-dated revaluation", book.costOf(issue, false), 210);
        due("the issue by average with it, 250 * 4 / 8", book.costOf(issue, true), 125);
        book.issue(0, 0, 1);
        due("the issue behind a back-dated one, 5 and 200 and 10", book.costOf(issue, false), 215);
        book.cancel(3);
        due("the issue with the revaluation cancelled, 300 and 10", book.costOf(issue, false), 310);
        Layerbook everyDay = new Layerbook();
        everyDay.receive(180, 0, 2, 6);
        for (int day = 0; day <= 364; day++) {
            due("every day, day " + day, everyDay.onHand(0, day), day < 180 ? 0 : 2);
        }
    }

    private void bothMethods() {
        about(0, "Both methods of valuation are kept side by side.");
        Layerbook book = TWO_LAYERS.make();
        for (int time = 0; time < 3; time++) {
            due("first in first out", book.costOf(2, false), 100);
            due("by average", book.costOf(2, true), 60);
            due("the layer that is left", book.layerCost(0, 3, 0), 20);
            due("the average's value that is left", book.value(0, 3, true), 60);
            due("the layers' value that is left", book.value(0, 3, false), 20);
        }
        about(0, "Where a method takes \"byAverage\", true stands for the moving average, false for first in first out.");
        Scene used = TWO_LAYERS.then("5 revalued, then a landed cost over the first receipt", b -> {
            b.revalue(4, 0, 5, 70);
            b.land(5, 8, BY_QUANTITY, 1);
        });
        due("value, 70", used, b -> b.value(0, 5, false), 70);
        due("value by average, 70 and 8", used, b -> b.value(0, 5, true), 78);
        due("issued", used, b -> b.issued(0, 5, false), 100);
        due("issued by average", used, b -> b.issued(0, 5, true), 60);
        due("revalued, 70 - 20", used, b -> b.revalued(0, 5, false), 50);
        due("revalued by average, 70 - 60", used, b -> b.revalued(0, 5, true), 10);
        due("expensed", used, b -> b.expensed(0, 5, false), 8);
        due("expensed by average", used, b -> b.expensed(0, 5, true), 0);
        due("costOf", used, b -> b.costOf(2, false), 100);
        due("costOf by average", used, b -> b.costOf(2, true), 60);
    }

    private void daysAndItems() {
        about(0, "Days are 0 to 364, items 0 to 5.");
        Scene corners = NEW.then("each item on the first and the last day", b -> {
            for (int item = 0; item <= 5; item++) {
                b.receive(0, item, 1 + item, 10 * item);
                b.receive(364, item, 100, 1);
            }
        });
        for (int item = 0; item <= 5; item++) {
            int asked = item;
            due("on hand on the first day, item " + item, corners, b -> b.onHand(asked, 0), 1 + item);
            due("on hand ahead of the last day, item " + item, corners, b -> b.onHand(asked, 363), 1 + item);
            due("on hand on the last day, item " + item, corners, b -> b.onHand(asked, 364), 101 + item);
            due("value on the first day, item " + item, corners, b -> b.value(asked, 0, true), 10 * item);
            due("value on the last day, item " + item, corners, b -> b.value(asked, 364, false), 10 * item + 1);
        }
        refusedArgument("day 365", corners, b -> b.onHand(0, 365));
        refusedArgument("day -1", corners, b -> b.onHand(5, -1));
        refusedArgument("item 6", corners, b -> b.onHand(6, 0));
        refusedArgument("item -1", corners, b -> b.onHand(-1, 364));
    }

    private void divisions() {
        about(0, "Costs are whole cents.");
        Scene cent = NEW.then("3 units for one cent", b -> b.receive(0, 0, 3, 1));
        Scene one = cent.then("one of 3 issued", b -> b.issue(0, 0, 1));
        due("a third of a cent is none", one, b -> b.costOf(1, false), 0);
        due("a third of a cent is none, by average", one, b -> b.costOf(1, true), 0);
        due("the cent is left", one, b -> b.value(0, 0, false), 1);
        Scene all = one.then("then 2 of 2", b -> b.issue(0, 0, 2));
        due("the rest has the cent", all, b -> b.costOf(2, false), 1);
        due("the rest has the cent, by average", all, b -> b.costOf(2, true), 1);
        about(0, "Divisions are rounded down.");
        for (int cost : List.of(8, 9, 11, 12)) {
            Scene quarter = NEW.then("one of 4 units for " + cost, b -> {
                b.receive(0, 0, 4, cost);
                b.issue(0, 0, 1);
            });
            due("a quarter", quarter, b -> b.costOf(1, false), cost < 12 ? 2 : 3);
            due("a quarter by average", quarter, b -> b.costOf(1, true), cost < 12 ? 2 : 3);
        }
        Scene part = NEW.then("a landed cost of 11 when 3 of 4 units are left", b -> {
            b.receive(0, 0, 4, 0);
            b.issue(0, 0, 1);
            b.land(0, 11, BY_QUANTITY, 1);
        });
        due("33 / 4", part, b -> b.value(0, 0, false), 8);
        due("33 / 4 by average", part, b -> b.value(0, 0, true), 8);
        Scene spread = NEW.then("a landed cost of 5 over 1 and 2", b -> {
            b.receive(0, 0, 1, 0);
            b.receive(0, 0, 2, 0);
            b.land(0, 5, BY_QUANTITY, 3);
        });
        due("5 / 3 and the cent", spread, b -> b.partOf(2, 0), 2);
        due("10 / 3", spread, b -> b.partOf(2, 1), 3);
    }

    private void whatThrowsFirst() {
        about(0, "A method throws IndexOutOfBoundsException, IllegalArgumentException or IllegalStateException as it documents; if several apply, the one that it lists first is thrown.");
        Scene sixtyClosed = FULL.then("60 movements and closed books", b -> b.close(364));
        refusedArgument("receive", sixtyClosed, b -> b.receive(0, 0, 1, -1));
        refusedArgument("issue", sixtyClosed, b -> b.issue(0, 0, 1001));
        refusedArgument("revalue", sixtyClosed, b -> b.revalue(0, 6, 1, 0));
        refusedArgument("land, the amount and a bit", sixtyClosed, b -> b.land(0, 0, BY_QUANTITY, 1L << 60));
        refusedIndex("land, a bit and a cancelled movement", sixtyClosed, b -> b.land(0, 1, BY_QUANTITY, 1L << 60 | 1L << 9));
        refusedIndex("cancel, there is none", sixtyClosed, b -> b.cancel(60));
        refusedArgument("close", sixtyClosed, b -> b.close(-1));
        refusedIndex("partOf, the second number", sixtyClosed, b -> b.partOf(0, 60));
        refusedIndex("costOf, there is none", sixtyClosed, b -> b.costOf(60, true));
        refusedArgument("layerQuantity", sixtyClosed, b -> b.layerQuantity(6, 0, 99));
        refusedArgument("layerCost", sixtyClosed, b -> b.layerCost(0, -1, -1));
        refusedArgument("layerOrigin", sixtyClosed, b -> b.layerOrigin(0, 365, 0));
    }

    private void whatThrowsChangesNothing() {
        about(0, "A call that throws changes nothing.");
        Layerbook book = MIXED.make();
        for (int time = 0; time < 61; time++) {
            refusals(book);
        }
        due("61 refused calls of each kind use no number up", book.receive(9, 3, 1, 1), 10);
        due("it is the last one of the ledger", book.placeOf(10), 8);
        for (int number = 11; number < 60; number++) {
            due("nor are there fewer than 60 then", book.receive(9, 3, 1, 1), number);
        }
        due("all of them stand", book.onHand(3, 9), 50);
        due("nothing was closed", book.close(0), Layerbook.NONE);
    }

    /** Four calls, each of which throws. */
    private static void refusals(Layerbook book) {
        List<Scene.Call> wrong = List.of(
            b -> b.issue(9, 0, 1000), b -> b.revalue(0, 0, 1, 1), b -> b.land(9, 1, BY_QUANTITY, 1L << 3), b -> b.cancel(8));
        for (Scene.Call call : wrong) {
            try {
                call.on(book);
            } catch (IllegalStateException e) {
                continue;
            }
            throw new AssertionError("a call that must throw did not");
        }
    }

    private void numbers() {
        about(0, "Movements are numbered from 0 in the order in which they are posted; there are at most 60.");
        Layerbook book = new Layerbook();
        for (int number = 0; number < 60; number++) {
            due("number " + number, book.receive(364 - number, number % 6, 1, 1), number);
        }
        refusedState("the 61st", FULL, b -> b.receive(364, 0, 1, 1));
        about(0, "A movement is a receipt, an issue, a revaluation or a landed cost.");
        due("a receipt", MIXED, b -> b.kindOf(0), 0);
        due("an issue", MIXED, b -> b.kindOf(3), 1);
        due("a revaluation", MIXED, b -> b.kindOf(4), 2);
        due("a landed cost", MIXED, b -> b.kindOf(5), 3);
    }

    private void cancelledMovements() {
        about(0, "A cancelled movement keeps its number, but has no effect.");
        Scene gone = NEW.then("a receipt cancelled, another posted", b -> {
            b.receive(0, 0, 5, 50);
            b.cancel(0);
            b.receive(0, 0, 7, 70);
        });
        due("the next number is another one", gone, b -> b.movements(), 2);
        due("the quantity", gone, b -> b.onHand(0, 364), 7);
        due("the value", gone, b -> b.value(0, 364, false), 70);
        due("the value by average", gone, b -> b.value(0, 364, true), 70);
        due("what was received", gone, b -> b.received(0, 364), 70);
        due("the layers", gone, b -> b.layers(0, 364), 1);
        due("the layer's origin", gone, b -> b.layerOrigin(0, 364, 0), 1);
        due("its day", gone, b -> b.dayOf(0), 0);
        Scene emptied = MIXED.then("all cancelled", b -> {
            for (int number = 7; number >= 0; number--) {
                b.cancel(number);
            }
        });
        for (int item = 0; item <= 1; item++) {
            int asked = item;
            due("nothing on hand", emptied, b -> b.onHand(asked, 364), 0);
            due("nothing received", emptied, b -> b.received(asked, 364), 0);
            due("nothing issued", emptied, b -> b.issued(asked, 364, false), 0);
            due("nothing revalued", emptied, b -> b.revalued(asked, 364, true), 0);
            due("nothing expensed", emptied, b -> b.expensed(asked, 364, true), 0);
            due("no layer", emptied, b -> b.layers(asked, 364), 0);
        }
        due("all numbers are kept", emptied, b -> b.movements(), 10);
    }

    private void order() {
        about(0, "The ledger has all movements that are not cancelled, ordered by day; those of the same day by number.");
        Scene days = NEW.then("receipts of the days 5, 4, 5, 6, 4, the third cancelled", b -> {
            for (int day : List.of(5, 4, 5, 6, 4)) {
                b.receive(day, 0, 1, 1);
            }
            b.cancel(2);
        });
        int[] places = {2, 0, Layerbook.NONE, 3, 1};
        int[] origins = {1, 4, 0, 3};
        for (int number = 0; number < 5; number++) {
            int asked = number;
            due("place of " + number, days, b -> b.placeOf(asked), places[number]);
        }
        for (int layer = 0; layer < 4; layer++) {
            int asked = layer;
            due("origin of layer " + layer, days, b -> b.layerOrigin(0, 6, asked), origins[layer]);
        }
        about(0, "Their effects follow one another in this order.");
        Scene first = NEW.then("issued ahead of the second receipt of the day", b -> {
            b.receive(5, 0, 2, 20);
            b.issue(5, 0, 1);
            b.receive(5, 0, 2, 200);
        });
        due("by average the second receipt is too late", first, b -> b.costOf(1, true), 10);
        Scene dayAhead = first.then("a receipt of the day ahead", b -> b.receive(4, 0, 1, 1));
        due("one of the day ahead is not", dayAhead, b -> b.costOf(1, false), 1);
        due("one of the day ahead is not, by average", dayAhead, b -> b.costOf(1, true), 7);
        Scene revalued = NEW.then("revalued, issued, revalued on one day", b -> {
            b.receive(5, 0, 4, 40);
            b.revalue(5, 0, 4, 80);
            b.issue(5, 0, 1);
            b.revalue(5, 0, 3, 6);
        });
        due("the issue is between them", revalued, b -> b.costOf(2, false), 20);
        due("the issue is between them, by average", revalued, b -> b.costOf(2, true), 20);
    }

    private void quantityOnHand() {
        about(0, "The quantity on hand of an item at a place of the ledger is the quantity of all its receipts less that of all its issues up to there.");
        Scene scene = NEW.then("10 in, 3 out, 4 revalued, landed, 5 in, 12 out", b -> {
            b.receive(1, 3, 10, 1);
            b.issue(2, 3, 3);
            b.revalue(3, 3, 4, 9);
            b.land(4, 9, BY_QUANTITY, 1);
            b.receive(5, 3, 5, 1);
            b.issue(6, 3, 12);
        });
        int[] units = {0, 10, 7, 7, 7, 12, 0};
        for (int day = 0; day < units.length; day++) {
            int asked = day;
            due("day " + day, scene, b -> b.onHand(3, asked), units[day]);
        }
        due("another item", scene, b -> b.onHand(2, 6), 0);
        about(0, "Ahead of the calls `onHand`, `available`, `value`, `received`, `issued`, `revalued`, `expensed`, `layers`, `layerQuantity`, `layerCost`, `layerOrigin` the interface says: ---- an item at the end of a day, behind all movements of that day and of earlier ones.");
        Scene day = NEW.then("all kinds on one day", b -> {
            b.receive(5, 0, 10, 100);
            b.issue(5, 0, 4);
            b.revalue(5, 0, 3, 90);
            b.land(5, 10, BY_QUANTITY, 1);
        });
        due("onHand", day, b -> b.onHand(0, 5), 6);
        due("value, 60 - 30 + 90 + 10 * 3 / 10", day, b -> b.value(0, 5, false), 123);
        due("value by average, 60 - 30 + 90 + 10 * 6 / 10", day, b -> b.value(0, 5, true), 126);
        due("layers", day, b -> b.layers(0, 5), 2);
        for (int ahead : List.of(0, 4)) {
            due("onHand ahead of them", day, b -> b.onHand(0, ahead), 0);
            due("value ahead of them", day, b -> b.value(0, ahead, true), 0);
            due("received ahead of them", day, b -> b.received(0, ahead), 0);
            due("layers ahead of them", day, b -> b.layers(0, ahead), 0);
        }
    }

    private void validity() {
        about(0, "The ledger is valid, if no issue and no revaluation has a greater quantity than is on hand just ahead of it.");
        Scene four = NEW.then("4 units", b -> b.receive(5, 0, 4, 1));
        due("an issue of as many", four, b -> b.issue(5, 0, 4), 1);
        refusedState("an issue of one more", four, b -> b.issue(5, 0, 5));
        due("a revaluation of as many", four, b -> b.revalue(5, 0, 4, 1), 1);
        refusedState("a revaluation of one more", four, b -> b.revalue(5, 0, 5, 1));
        Scene receiptBehind = four.then("4 more the day behind", b -> b.receive(6, 0, 4, 1));
        refusedState("an issue ahead of what would be enough", receiptBehind, b -> b.issue(5, 0, 5));
        refusedState("a revaluation ahead of what would be enough", receiptBehind, b -> b.revalue(5, 0, 5, 1));
        about(0, "Movements that would make the ledger invalid are not posted, nor cancelled.");
        Scene laterIssue = four.then("all issued later", b -> b.issue(7, 0, 4));
        refusedState("an issue that a later issue makes impossible", laterIssue, b -> b.issue(6, 0, 1));
        refusedState("a receipt that an issue needs", laterIssue, b -> b.cancel(0));
        Scene laterRevaluation = four.then("all revalued later", b -> b.revalue(7, 0, 4, 9));
        refusedState("an issue that a later revaluation makes impossible", laterRevaluation, b -> b.issue(6, 0, 1));
        refusedState("a receipt that a revaluation needs", laterRevaluation, b -> b.cancel(0));
        due("a revaluation ahead of a later one", laterRevaluation, b -> b.revalue(6, 0, 4, 9), 2);
        due("an issue behind it", laterRevaluation, b -> b.issue(7, 0, 4), 2);
    }

    private void closedBooks() {
        about(0, "The books can be closed up to a day; movements of that day or earlier days can be neither posted nor cancelled then.");
        Scene closed = NEW.then("receipts of the days 4, 5 and 6, closed up to day 5", b -> {
            b.receive(4, 0, 1, 1);
            b.receive(5, 0, 1, 1);
            b.receive(6, 0, 1, 1);
            b.close(5);
        });
        refusedState("posted on an earlier day", closed, b -> b.receive(4, 0, 1, 1));
        refusedState("posted on that day", closed, b -> b.receive(5, 0, 1, 1));
        due("posted on the next day", closed, b -> b.receive(6, 0, 1, 1), 3);
        refusedState("cancelled, of an earlier day", closed, b -> b.cancel(0));
        refusedState("cancelled, of that day", closed, b -> b.cancel(1));
        due("cancelled, of the next day", closed, b -> b.cancel(2), 2);
        refusedState("a landed cost of that day", closed, b -> b.land(5, 1, BY_QUANTITY, 1));
        due("a landed cost of the next day over receipts of closed days", closed, b -> b.land(6, 1, BY_QUANTITY, 3), 3);
        due("an issue of the next day from layers of closed days", closed, b -> b.issue(6, 0, 3), 3);
    }

    private void layers() {
        about(0, "Each item has a queue of cost layers; a layer has a quantity above 0 and a cost, and belongs to the movement that made it.");
        Scene items = NEW.then("two receipts of item 0 with one of item 1 between", b -> {
            b.receive(0, 0, 1, 0);
            b.receive(0, 1, 2, 20);
            b.receive(0, 0, 3, 30);
        });
        due("layers of item 0", items, b -> b.layers(0, 0), 2);
        due("layers of item 1", items, b -> b.layers(1, 0), 1);
        due("layers of item 2", items, b -> b.layers(2, 0), 0);
        due("the least quantity", items, b -> b.layerQuantity(0, 0, 0), 1);
        due("a cost of 0", items, b -> b.layerCost(0, 0, 0), 0);
        due("the movement of the second", items, b -> b.layerOrigin(0, 0, 1), 2);
        Scene used = items.then("the first unit issued", b -> b.issue(0, 0, 1));
        due("no layer without units", used, b -> b.layers(0, 0), 1);
        due("the movement of what is left", used, b -> b.layerOrigin(0, 0, 0), 2);
    }

    private void taking() {
        about(0, "To take q units from the queue is to take them from the first layer, and, as long as more are needed, from the next ones; a layer without units is removed.");
        Scene three = NEW.then("layers of 3, 2 and 4 units", b -> {
            b.receive(0, 0, 3, 31);
            b.receive(0, 0, 2, 20);
            b.receive(0, 0, 4, 42);
        });
        int[] layers = {3, 3, 2, 2, 1, 1, 1, 1, 0};
        int[] units = {2, 1, 2, 1, 4, 3, 2, 1, 0};
        int[] costs = {10, 20, 31, 41, 51, 61, 72, 82, 93};
        for (int taken = 1; taken <= 9; taken++) {
            int quantity = taken;
            Scene scene = three.then(taken + " of 3, 2 and 4 units issued", b -> b.issue(0, 0, quantity));
            due("layers left", scene, b -> b.layers(0, 0), layers[taken - 1]);
            due("the cost", scene, b -> b.costOf(3, false), costs[taken - 1]);
            due("the value left", scene, b -> b.value(0, 0, false), 93 - costs[taken - 1]);
            if (taken < 9) {
                due("units of the first layer", scene, b -> b.layerQuantity(0, 0, 0), units[taken - 1]);
            }
        }
        about(0, "If q of the n units of a layer with the cost c are taken, c * q / n of the cost are taken with them.");
        Scene two = three.then("2 of 3 units for 31", b -> b.issue(0, 0, 2));
        due("31 * 2 / 3", two, b -> b.costOf(3, false), 20);
        due("31 - 20 are left", two, b -> b.layerCost(0, 0, 0), 11);
        Scene last = two.then("then the last one", b -> b.issue(0, 0, 1));
        due("11 * 1 / 1", last, b -> b.costOf(4, false), 11);
        Scene dear = NEW.then("999 of 1000 units for 1000000", b -> {
            b.receive(0, 0, 1000, 1000000);
            b.issue(0, 0, 999);
        });
        due("the greatest product", dear, b -> b.costOf(1, false), 999000);
        about(0, "What is taken costs the sum of this.");
        Scene sum = NEW.then("the rest of a layer and part of the next", b -> {
            b.receive(0, 0, 2, 5);
            b.receive(0, 0, 2, 5);
            b.issue(0, 0, 1);
            b.issue(0, 0, 2);
        });
        due("5 / 2", sum, b -> b.costOf(2, false), 2);
        due("3 and 5 / 2", sum, b -> b.costOf(3, false), 5);
        due("what is left", sum, b -> b.layerCost(0, 0, 0), 3);
    }

    private void layersOfMovements() {
        about(0, "A receipt appends a layer with its quantity and cost.");
        Scene behind = NEW.then("a receipt behind a revaluation", b -> {
            b.receive(0, 0, 2, 20);
            b.revalue(0, 0, 1, 5);
            b.receive(0, 0, 1000, 1000000);
        });
        due("it is the last one", behind, b -> b.layerOrigin(0, 0, 2), 2);
        due("its quantity", behind, b -> b.layerQuantity(0, 0, 2), 1000);
        due("its cost", behind, b -> b.layerCost(0, 0, 2), 1000000);
        Scene behindAll = NEW.then("a receipt behind a revaluation of all", b -> {
            b.receive(0, 0, 2, 20);
            b.revalue(0, 0, 2, 5);
            b.receive(0, 0, 1, 1);
        });
        due("both layers are there", behindAll, b -> b.layers(0, 0), 2);
        due("the revaluation's is the first", behindAll, b -> b.layerOrigin(0, 0, 0), 1);
        due("the receipt's is the last", behindAll, b -> b.layerOrigin(0, 0, 1), 2);
        Scene anew = NEW.then("a receipt when nothing is left", b -> {
            b.receive(0, 0, 2, 20);
            b.issue(0, 0, 2);
            b.receive(0, 0, 3, 9);
        });
        due("the only one", anew, b -> b.layers(0, 0), 1);
        due("the only one's origin", anew, b -> b.layerOrigin(0, 0, 0), 2);
        about(0, "An issue takes its quantity; what is taken is the cost of the issue.");
        due("first in first out", TWO_LAYERS, b -> b.costOf(2, false), 100);
        due("by average", TWO_LAYERS, b -> b.costOf(2, true), 60);
        due("the quantity", TWO_LAYERS, b -> b.onHand(0, 3), 5);
        about(0, "A revaluation takes its quantity, and puts a layer with the same quantity and the cost of the revaluation at the front of the queue; the cost of the revaluation less what was taken is added to the revaluations of the item.");
        int[] layers = {3, 2, 2, 1};
        int[] revalued = {-20 + 7, -40 + 7, -50 + 7, -60 + 7};
        for (int quantity = 1; quantity <= 4; quantity++) {
            int units = quantity;
            Scene scene = NEW.then(units + " of 2 and 2 units revalued", b -> {
                b.receive(0, 0, 2, 40);
                b.receive(0, 0, 2, 20);
                b.revalue(0, 0, units, 7);
            });
            due("layers", scene, b -> b.layers(0, 0), layers[quantity - 1]);
            due("the front's quantity", scene, b -> b.layerQuantity(0, 0, 0), quantity);
            due("the front's cost", scene, b -> b.layerCost(0, 0, 0), 7);
            due("the front's origin", scene, b -> b.layerOrigin(0, 0, 0), 2);
            due("the revaluations", scene, b -> b.revalued(0, 0, false), revalued[quantity - 1]);
            due("the value", scene, b -> b.value(0, 0, false), 60 + revalued[quantity - 1]);
            due("on hand", scene, b -> b.onHand(0, 0), 4);
        }
        Scene again = behind.then("a revaluation of the front and one unit more", b -> b.revalue(0, 0, 2, 3));
        due("a revaluation takes an earlier one's layer", again, b -> b.layerOrigin(0, 0, 0), 3);
        due("the last layer is the next then", again, b -> b.layerOrigin(0, 0, 1), 2);
        due("5 - 10 and 3 - 5 - 10", again, b -> b.revalued(0, 0, false), -17);
    }

    private void average() {
        about(0, "Each item has a value, 0 at first.");
        due("at first", NEW, b -> b.value(5, 364, true), 0);
        about(0, "A receipt adds its cost.");
        Scene two = NEW.then("receipts for 0 and 1000000", b -> {
            b.receive(0, 0, 1, 0);
            b.receive(1, 0, 2, 1000000);
        });
        due("0", two, b -> b.value(0, 0, true), 0);
        due("1000000", two, b -> b.value(0, 1, true), 1000000);
        due("another item's", two, b -> b.value(1, 1, true), 0);
        about(0, "If the quantity on hand is n and the value is v, taking q units takes v * q / n of the value.");
        int[] taken = {14, 28, 42, 57, 71, 85, 100};
        for (int quantity = 1; quantity <= 7; quantity++) {
            int units = quantity;
            Scene scene = NEW.then(units + " of 7 units for 100", b -> {
                b.receive(0, 0, 4, 90);
                b.receive(0, 0, 3, 10);
                b.issue(0, 0, units);
            });
            due("100 * q / 7", scene, b -> b.costOf(2, true), taken[quantity - 1]);
            due("the value left", scene, b -> b.value(0, 0, true), 100 - taken[quantity - 1]);
        }
        Scene anew = NEW.then("a receipt when nothing is left", b -> {
            b.receive(0, 0, 3, 10);
            b.issue(0, 0, 3);
            b.receive(0, 0, 1, 4);
            b.issue(0, 0, 1);
        });
        due("nothing was left", anew, b -> b.costOf(3, true), 4);
        Scene dear = NEW.then("1000 of 58000 units for 58000000", b -> {
            for (int number = 0; number < 58; number++) {
                b.receive(0, 0, 1000, 1000000);
            }
            b.issue(0, 0, 999);
            b.issue(0, 0, 1000);
        });
        due("58000000 * 999 / 58000", dear, b -> b.costOf(58, true), 999000);
        due("57001000 * 1000 / 57001", dear, b -> b.costOf(59, true), 1000000);
    }

    private void averageOfRevaluations() {
        about(0, "A revaluation takes its quantity, and adds its cost; the cost of the revaluation less what was taken is added to the revaluations of the item.");
        int[] taken = {14, 28, 42, 57, 71, 85, 100};
        for (int quantity = 1; quantity <= 7; quantity++) {
            int units = quantity;
            Scene scene = NEW.then(units + " of 7 units for 100 revalued at 30", b -> {
                b.receive(0, 0, 7, 100);
                b.revalue(0, 0, units, 30);
            });
            due("30 - 100 * q / 7", scene, b -> b.revalued(0, 0, true), 30 - taken[quantity - 1]);
            due("the value", scene, b -> b.value(0, 0, true), 130 - taken[quantity - 1]);
            due("the quantity is as before", scene, b -> b.onHand(0, 0), 7);
        }
    }

    private void bases() {
        about(0, "A landed cost has an amount that is spread over some receipts, of any items, by a basis: BY_QUANTITY, BY_COST (the cost of the receipt itself), or BY_WEIGHT (the quantity times the weight of the item, 1 at first, as it is when the landed cost is posted).");
        Scene receipts = NEW.then("receipts of 2, 3 and 5 units for 50, 0 and 30", b -> {
            b.receive(0, 0, 2, 50);
            b.receive(0, 3, 3, 0);
            b.receive(0, 5, 5, 30);
        });
        parts(receipts.then("by quantity", b -> b.land(0, 100, BY_QUANTITY, 7)), 20, 30, 50);
        parts(receipts.then("by cost", b -> b.land(0, 80, BY_COST, 7)), 50, 0, 30);
        parts(receipts.then("by the first weights", b -> b.land(0, 100, BY_WEIGHT, 7)), 20, 30, 50);
        parts(receipts.then("by weights of 1, 100 and 1", b -> {
            b.setWeight(3, 100);
            b.land(0, 307, BY_WEIGHT, 7);
        }), 2, 300, 5);
        parts(receipts.then("over the first and the last", b -> b.land(0, 70, BY_QUANTITY, 5)), 20, 0, 50);
        parts(receipts.then("over the last", b -> b.land(0, 70, BY_WEIGHT, 4)), 0, 0, 70);
        Scene later = receipts.then("by cost with what changes a cost, but not the receipt's", b -> {
            b.land(0, 500, BY_QUANTITY, 2);
            b.revalue(0, 5, 5, 1000);
            b.issue(0, 0, 1);
            b.land(0, 80, BY_COST, 7);
        });
        due("the first receipt's own cost", later, b -> b.partOf(6, 0), 50);
        due("the second receipt's own cost", later, b -> b.partOf(6, 1), 0);
        due("the third receipt's own cost", later, b -> b.partOf(6, 2), 30);
        Scene used = receipts.then("by quantity, when one unit of two is left", b -> {
            b.issue(0, 0, 1);
            b.land(0, 100, BY_QUANTITY, 7);
        });
        due("the quantity of the receipt, not what is left", used, b -> b.partOf(4, 0), 20);
    }

    /** The parts of movement 3 of the first three receipts. */
    private void parts(Scene scene, int... parts) {
        for (int receipt = 0; receipt < parts.length; receipt++) {
            int asked = receipt;
            due("part of " + receipt, scene, b -> b.partOf(3, asked), parts[receipt]);
        }
    }

    private void cents() {
        about(0, "With the basis w of a receipt and the sum s of all of them, the receipt gets amount * w / s; what is left of the amount is given out cent by cent, one each, to those with the greatest remainders of that division; of several with like remainders to the one with the least number first.");
        Scene alike = NEW.then("three receipts alike, the first of the latest day", b -> {
            b.receive(7, 0, 1, 1);
            b.receive(6, 0, 1, 1);
            b.receive(5, 0, 1, 1);
        });
        parts(alike.then("one cent over three", b -> b.land(7, 1, BY_QUANTITY, 7)), 1, 0, 0);
        parts(alike.then("two cents over three", b -> b.land(7, 2, BY_QUANTITY, 7)), 1, 1, 0);
        parts(alike.then("three cents over three", b -> b.land(7, 3, BY_QUANTITY, 7)), 1, 1, 1);
        parts(alike.then("four cents over three", b -> b.land(7, 4, BY_QUANTITY, 7)), 2, 1, 1);
        parts(alike.then("five cents over three", b -> b.land(7, 5, BY_QUANTITY, 7)), 2, 2, 1);
        parts(alike.then("one cent over the last two", b -> b.land(7, 1, BY_QUANTITY, 6)), 0, 1, 0);
        Scene rising = NEW.then("receipts of 1, 2 and 4 units", b -> {
            b.receive(0, 0, 1, 1);
            b.receive(0, 1, 2, 1);
            b.receive(0, 2, 4, 1);
        });
        parts(rising.then("remainders 1, 2, 4 of 7, one cent", b -> b.land(0, 1, BY_QUANTITY, 7)), 0, 0, 1);
        parts(rising.then("remainders 2, 4, 1 of 7, one cent", b -> b.land(0, 2, BY_QUANTITY, 7)), 0, 1, 1);
        parts(rising.then("remainders 3, 6, 5 of 7, two cents", b -> b.land(0, 3, BY_QUANTITY, 7)), 0, 1, 2);
        parts(rising.then("remainders 6, 5, 3 of 7, two cents", b -> b.land(0, 6, BY_QUANTITY, 7)), 1, 2, 3);
        parts(rising.then("nothing left", b -> b.land(0, 7, BY_QUANTITY, 7)), 1, 2, 4);
        Scene tied = NEW.then("receipts of 1, 2 and 2 units", b -> {
            b.receive(0, 0, 1, 1);
            b.receive(0, 1, 2, 1);
            b.receive(0, 2, 2, 1);
        });
        parts(tied.then("remainders 1, 2, 2 of 5, one cent", b -> b.land(0, 1, BY_QUANTITY, 7)), 0, 1, 0);
        parts(tied.then("remainders 3, 1, 1 of 5, one cent", b -> b.land(0, 3, BY_QUANTITY, 7)), 1, 1, 1);
        parts(tied.then("remainders 4, 3, 3 of 5, two cents", b -> b.land(0, 4, BY_QUANTITY, 7)), 1, 2, 1);
        parts(NEW.then("the greatest products", b -> {
            b.receive(0, 0, 1, 1000000);
            b.receive(0, 0, 1, 1000000);
            b.receive(0, 0, 1, 999999);
            b.land(0, 1000000, BY_COST, 7);
        }), 333334, 333333, 333333);
        parts(NEW.then("the greatest products of weights", b -> {
            b.receive(0, 0, 1000, 0);
            b.receive(0, 1, 1000, 0);
            b.receive(0, 2, 999, 0);
            b.setWeight(0, 100);
            b.setWeight(1, 100);
            b.setWeight(2, 100);
            b.land(0, 1000000, BY_WEIGHT, 7);
        }), 333445, 333444, 333111);
    }

    private void partsStay() {
        about(0, "This part of the receipt stays as it is, whatever is posted or cancelled later.");
        Scene landed = NEW.then("a landed cost over two receipts", b -> {
            b.receive(0, 0, 3, 1);
            b.receive(0, 1, 1, 1);
            b.receive(0, 1, 9, 1);
            b.land(0, 10, BY_WEIGHT, 3);
        });
        parts(landed, 8, 2, 0);
        parts(landed.then("another weight", b -> b.setWeight(1, 100)), 8, 2, 0);
        parts(landed.then("all issued", b -> b.issue(0, 0, 3)), 8, 2, 0);
        parts(landed.then("revalued", b -> b.revalue(0, 1, 10, 0)), 8, 2, 0);
        parts(landed.then("landed once more", b -> b.land(0, 100, BY_WEIGHT, 7)), 8, 2, 0);
        parts(landed.then("a receipt beside it cancelled", b -> b.cancel(2)), 8, 2, 0);
        Scene cancelled = landed.then("the landed cost cancelled", b -> b.cancel(3));
        parts(cancelled, 8, 2, 0);
        parts(cancelled.then("and its receipts", b -> {
            b.cancel(0);
            b.cancel(1);
        }), 8, 2, 0);
    }

    /** 4 units for 40, so many of them issued, and a landed cost of 10 over them. */
    private static Scene landedAfter(int issued, int others) {
        return NEW.then(issued + " issued, " + others + " others behind, landed", b -> {
            b.receive(1, 0, 4, 40);
            if (others > 0) {
                b.receive(1, 0, others, 0);
            }
            if (issued > 0) {
                b.issue(2, 0, issued);
            }
            b.land(3, 10, BY_QUANTITY, 1);
        });
    }

    private void partsOfLayers() {
        about(0, "The part p of a receipt with the quantity q becomes effective at the place of the landed cost in the ledger.");
        Scene day = NEW.then("issued ahead of the landed cost and behind it, on one day", b -> {
            b.receive(5, 0, 4, 40);
            b.issue(5, 0, 1);
            b.land(5, 8, BY_QUANTITY, 1);
            b.issue(5, 0, 1);
        });
        due("the issue ahead of it", day, b -> b.costOf(1, false), 10);
        due("the issue ahead of it, by average", day, b -> b.costOf(1, true), 10);
        due("the issue behind it, 36 / 3", day, b -> b.costOf(3, false), 12);
        due("the issue behind it, by average", day, b -> b.costOf(3, true), 12);
        Scene late = NEW.then("landed on the last day", b -> {
            b.receive(5, 0, 4, 40);
            b.land(364, 8, BY_QUANTITY, 1);
        });
        due("the day ahead", late, b -> b.value(0, 363, false), 40);
        due("the day itself", late, b -> b.value(0, 364, false), 48);
        Scene backDated = late.then("one unit issued, back-dated", b -> b.issue(363, 0, 1));
        due("what is left then", backDated, b -> b.value(0, 364, false), 36);
        due("what is expensed then", backDated, b -> b.expensed(0, 364, false), 2);
        due("the back-dated issue costs no part of it", backDated, b -> b.costOf(2, false), 10);
        about(0, "First in first out: if the layer that the receipt made has n units left, p * n / q is added to its cost.");
        int[] costs = {50, 30 + 7, 20 + 5, 10 + 2};
        for (int issued = 0; issued < 4; issued++) {
            due("its cost", landedAfter(issued, 0), b -> b.layerCost(0, 3, 0), costs[issued]);
        }
        due("none left, no layer", landedAfter(4, 0), b -> b.layers(0, 3), 0);
        due("none left, the other layer gets nothing", landedAfter(4, 4), b -> b.value(0, 3, false), 0);
        Scene revalued = NEW.then("4 units, 3 of them revalued, landed", b -> {
            b.receive(1, 0, 4, 40);
            b.revalue(2, 0, 3, 9);
            b.land(3, 10, BY_QUANTITY, 1);
        });
        due("the revaluation's layer gets nothing", revalued, b -> b.layerCost(0, 3, 0), 9);
        due("the receipt's layer, behind it, gets its share", revalued, b -> b.layerCost(0, 3, 1), 12);
        Scene all = NEW.then("all 4 units revalued, landed", b -> {
            b.receive(1, 0, 4, 40);
            b.revalue(2, 0, 4, 9);
            b.land(3, 10, BY_QUANTITY, 1);
        });
        due("all revalued, nothing is added", all, b -> b.value(0, 3, false), 9);
        due("all revalued, all is expensed", all, b -> b.expensed(0, 3, false), 10);
    }

    private void partsOfTheAverage() {
        about(0, "Moving average: with n for the quantity on hand of the item, but at most q, p * n / q is added to the value.");
        int[] values = {50, 30 + 7, 20 + 5, 10 + 2, 0};
        for (int issued = 0; issued <= 4; issued++) {
            due("the value", landedAfter(issued, 0), b -> b.value(0, 3, true), values[issued]);
        }
        due("one more on hand than q", landedAfter(0, 1), b -> b.value(0, 3, true), 50);
        due("just q on hand, of others too, 40 - 8 + 10", landedAfter(1, 1), b -> b.value(0, 3, true), 42);
        due("one less than q, of others too, 40 - 16 + 7", landedAfter(2, 1), b -> b.value(0, 3, true), 31);
        due("only others on hand, 40 - 26 + 5", landedAfter(4, 2), b -> b.value(0, 3, true), 19);
        Scene two = NEW.then("landed over two receipts with 3 of 6 units left", b -> {
            b.receive(1, 0, 4, 0);
            b.receive(1, 0, 2, 0);
            b.issue(2, 0, 3);
            b.land(3, 60, BY_QUANTITY, 3);
        });
        due("40 * 3 / 4 and 20 * 2 / 2", two, b -> b.value(0, 3, true), 50);
        due("first in first out, 40 * 1 / 4 and 20 * 2 / 2", two, b -> b.value(0, 3, false), 30);
        Scene otherItem = NEW.then("another item's units", b -> {
            b.receive(1, 0, 4, 0);
            b.receive(1, 1, 4, 0);
            b.issue(2, 0, 4);
            b.land(3, 60, BY_QUANTITY, 1);
        });
        due("they do not count", otherItem, b -> b.value(0, 3, true), 0);
        due("they get nothing", otherItem, b -> b.value(1, 3, true), 0);
        about(0, "The rest of p is expensed.");
        int[] rests = {0, 3, 5, 8, 10};
        for (int issued = 0; issued <= 4; issued++) {
            due("first in first out", landedAfter(issued, 0), b -> b.expensed(0, 3, false), rests[issued]);
            due("by average", landedAfter(issued, 0), b -> b.expensed(0, 3, true), rests[issued]);
            due("what is received is the whole part", landedAfter(issued, 0), b -> b.received(0, 3), 50);
        }
        due("first in first out, the receipt's layer is gone", landedAfter(4, 4), b -> b.expensed(0, 3, false), 10);
        due("by average, others are on hand", landedAfter(4, 4), b -> b.expensed(0, 3, true), 0);
        due("by average, some others are on hand", landedAfter(4, 1), b -> b.expensed(0, 3, true), 8);
        due("the day ahead", landedAfter(4, 0), b -> b.expensed(0, 2, false), 0);
    }

    private void constants() {
        about(0, "The constants: `RECEIPT = 0, ISSUE = 1, REVALUATION = 2, LANDED_COST = 3`: Kinds of movements.");
        due("RECEIPT", Layerbook.RECEIPT, 0);
        due("ISSUE", Layerbook.ISSUE, 1);
        due("REVALUATION", Layerbook.REVALUATION, 2);
        due("LANDED_COST", Layerbook.LANDED_COST, 3);
        about(0, "`BY_QUANTITY = 0, BY_COST = 1, BY_WEIGHT = 2`: Bases on which a landed cost is spread.");
        due("BY_QUANTITY", Layerbook.BY_QUANTITY, 0);
        due("BY_COST", Layerbook.BY_COST, 1);
        due("BY_WEIGHT", Layerbook.BY_WEIGHT, 2);
        about(0, "`NONE = -1`: There is none.");
        due("NONE", Layerbook.NONE, -1);
        due("a cancelled movement's place", MIXED, b -> b.placeOf(9), Layerbook.NONE);
        due("the day up to which new books are closed", STOCKED, b -> b.close(364), Layerbook.NONE);
        due("no such answer of closed books", CLOSED.then("closed", b -> b.setWeight(0, 1)), b -> b.placeOf(0), 1);
    }
}
