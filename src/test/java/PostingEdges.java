import java.util.List;

/** Promises 1 to 8, sentence by sentence. */
final class PostingEdges extends Edges {
    private static final int BY_QUANTITY = Layerbook.BY_QUANTITY, BY_COST = Layerbook.BY_COST, BY_WEIGHT = Layerbook.BY_WEIGHT;
    private static final long BIT_63 = Long.MIN_VALUE, ALL_BITS = -1;

    private static final Scene NEW = Scene.NEW, STOCKED = Scene.STOCKED, MIXED = Scene.MIXED, CLOSED = Scene.CLOSED, FULL = Scene.FULL;

    private static final Scene CLOSED_0 = STOCKED.then("closed up to day 0", b -> b.close(0));
    private static final Scene CLOSED_9 = STOCKED.then("closed up to day 3, then 9", b -> {
        b.close(3);
        b.close(9);
    });
    private static final Scene CLOSED_363 = STOCKED.then("closed up to day 363", b -> b.close(363));
    private static final Scene CLOSED_364 = STOCKED.then("closed up to day 364", b -> b.close(364));

    private static final Scene FIFTY_NINE = STOCKED.then("59 movements", b -> {
        for (int number = 6; number < 59; number++) {
            b.receive(1, 0, 1, 1);
        }
    });
    private static final Scene SIXTY = FIFTY_NINE.then("60 movements", b -> b.receive(1, 0, 1, 1));
    private static final Scene SIXTY_WITH_CANCELLED = SIXTY.then("60 movements, the last one cancelled", b -> b.cancel(59));

    private static final Scene TEN = NEW.then("10 units on day 5", b -> b.receive(5, 0, 10, 100));
    private static final Scene TEN_ISSUE = TEN.then("10 units on day 5, 7 issued on day 8", b -> b.issue(8, 0, 7));
    private static final Scene TEN_REVALUED = TEN.then("10 units on day 5, 7 revalued on day 8", b -> b.revalue(8, 0, 7, 1));

    PostingEdges(Check check, Document document) {
        super(check, document);
    }

    void run() {
        newObject();
        receive();
        issue();
        issueThatIsInvalid();
        revalue();
        revaluationThatIsInvalid();
        land();
        landOverBits();
        landOverNoMovement();
        landOverWrongReceipts();
        cancel();
        cancelWithLandedCosts();
        cancelThatIsInvalid();
        close();
        setWeight();
    }

    /** Promise 1. */
    private void newObject() {
        about(1, "Empty books; nothing is closed.");
        due("movements", NEW, b -> b.movements(), 0);
        due("close the first day", NEW, b -> b.close(0), Layerbook.NONE);
        due("close the last day", NEW, b -> b.close(364), Layerbook.NONE);
        due("receive on the first day", NEW, b -> b.receive(0, 0, 1, 0), 0);
        due("receive on the last day", NEW, b -> b.receive(364, 5, 1, 0), 0);
        refusedState("issue", NEW, b -> b.issue(364, 0, 1));
        refusedState("revalue", NEW, b -> b.revalue(364, 0, 1, 0));
        refusedIndex("land", NEW, b -> b.land(364, 1, BY_QUANTITY, 1));
        refusedIndex("cancel", NEW, b -> b.cancel(0));
        for (int item = 0; item <= 5; item++) {
            int empty = item;
            due("weight of item " + item, NEW, b -> b.setWeight(empty, 100), 1);
            for (int day : List.of(0, 364)) {
                due("onHand", NEW, b -> b.onHand(empty, day), 0);
                due("value", NEW, b -> b.value(empty, day, false), 0);
                due("value by average", NEW, b -> b.value(empty, day, true), 0);
                due("layers", NEW, b -> b.layers(empty, day), 0);
            }
        }
        Layerbook used = FULL.make();
        used.close(364);
        Layerbook other = new Layerbook();
        due("another object's movements are its own", other.movements(), 0);
        due("another object's stock is its own", other.onHand(2, 364), 0);
        due("another object's weights are its own", other.setWeight(1, 1), 1);
        due("another object's closed days are its own", other.receive(0, 0, 1, 1), 0);
    }

    /** What holds for every kind of posting that is right on a book of 1000 of each item. */
    private void closedDays(int promise, Argument onDay) {
        about(promise, "the books are closed for the day");
        due("the first day", STOCKED, b -> onDay.on(b, 0), 6);
        refusedState("the first day", CLOSED_0, b -> onDay.on(b, 0));
        due("the second day", CLOSED_0, b -> onDay.on(b, 1), 6);
        refusedState("the first day", CLOSED_9, b -> onDay.on(b, 0));
        refusedState("the day behind the one closed first", CLOSED_9, b -> onDay.on(b, 4));
        refusedState("the day itself", CLOSED_9, b -> onDay.on(b, 9));
        due("the day behind it", CLOSED_9, b -> onDay.on(b, 10), 6);
        refusedState("the day ahead of the last", CLOSED_363, b -> onDay.on(b, 363));
        due("the last day", CLOSED_363, b -> onDay.on(b, 364), 6);
        refusedState("the last day", CLOSED_364, b -> onDay.on(b, 364));
        refusedState("the last day", CLOSED, b -> onDay.on(b, 364));
    }

    private void sixtyMovements(int promise, Scene.Call posting) {
        about(promise, "there are 60 movements");
        due("the 60th", FIFTY_NINE, posting, 59);
        refusedState("the 61st", SIXTY, posting);
        refusedState("the 61st", SIXTY_WITH_CANCELLED, posting);
        refusedState("the 61st", SIXTY.then("60 movements and closed books", b -> b.close(364)), posting);
    }

    /** Promise 2. */
    private void receive() {
        range(2, "`day`: 0 to 364", 0, 364, STOCKED, (b, day) -> b.receive(day, 0, 1, 1), 6, 6);
        range(2, "`item`: 0 to 5", 0, 5, STOCKED, (b, item) -> b.receive(0, item, 1, 1), 6, 6);
        range(2, "`quantity`: 1 to 1000", 1, 1000, STOCKED, (b, quantity) -> b.receive(0, 0, quantity, 1), 6, 6);
        range(2, "`cost`: 0 to 1000000: the cost of the whole quantity", 0, 1000000, STOCKED, (b, cost) -> b.receive(0, 0, 1, cost), 6, 6);
        Scene greatest = NEW.then("the greatest receipt", b -> b.receive(364, 5, 1000, 1000000));
        due("the greatest cost of the greatest quantity", greatest, b -> b.value(5, 364, false), 1000000);
        due("the same by average", greatest, b -> b.value(5, 364, true), 1000000);
        due("the same in its layer", greatest, b -> b.layerCost(5, 364, 0), 1000000);
        Scene least = NEW.then("the least receipt", b -> b.receive(0, 0, 1, 0));
        due("no cost", least, b -> b.value(0, 0, false), 0);
        about(2, "Posts a receipt.");
        due("the kind", least, b -> b.kindOf(0), Layerbook.RECEIPT);
        due("the day", greatest, b -> b.dayOf(0), 364);
        due("the least quantity", least, b -> b.onHand(0, 0), 1);
        due("the greatest quantity", greatest, b -> b.onHand(5, 364), 1000);
        due("the day ahead", greatest, b -> b.onHand(5, 363), 0);
        due("the neighbouring item", greatest, b -> b.onHand(4, 364), 0);
        due("a layer without cost is one", least, b -> b.layers(0, 0), 1);
        about(2, "Returns the number of the movement.");
        due("the first one", NEW, b -> b.receive(364, 0, 1, 1), 0);
        due("the next one, of an earlier day", greatest, b -> b.receive(0, 0, 1, 1), 1);
        due("behind cancelled ones", MIXED, b -> b.receive(0, 0, 1, 1), 10);
        about(2, "an argument is out of range");
        refusedArgument("all of them, of a closed day", CLOSED, b -> b.receive(-1, -1, 0, -1));
        refusedArgument("one of them, of a closed day", CLOSED, b -> b.receive(364, 0, 1, 1000001));
        refusedArgument("one of them, with 60 movements", FULL, b -> b.receive(9, 0, 0, 1));
        closedDays(2, (b, day) -> b.receive(day, 0, 1, 1));
        sixtyMovements(2, b -> b.receive(9, 0, 1, 1));
        refusedState("of a new item", FULL, b -> b.receive(0, 5, 1, 1));
    }

    /** Promise 3. */
    private void issue() {
        range(3, "`day`: 0 to 364", 0, 364, STOCKED, (b, day) -> b.issue(day, 0, 1), 6, 6);
        range(3, "`item`: 0 to 5", 0, 5, STOCKED, (b, item) -> b.issue(0, item, 1), 6, 6);
        range(3, "`quantity`: 1 to 1000", 1, 1000, STOCKED, (b, quantity) -> b.issue(0, 0, quantity), 6, 6);
        refusedArgument("1001 of 2000", STOCKED.then("2000 of item 0", b -> b.receive(0, 0, 1000, 1)), b -> b.issue(0, 0, 1001));
        about(3, "Posts an issue.");
        Scene all = STOCKED.then("all of item 5 issued", b -> b.issue(364, 5, 1000));
        due("the kind", all, b -> b.kindOf(6), Layerbook.ISSUE);
        due("the day", all, b -> b.dayOf(6), 364);
        due("nothing is left", all, b -> b.onHand(5, 364), 0);
        due("the day ahead", all, b -> b.onHand(5, 363), 1000);
        due("the neighbouring item", all, b -> b.onHand(4, 364), 1000);
        Scene one = STOCKED.then("one of item 0 issued", b -> b.issue(0, 0, 1));
        due("the least quantity", one, b -> b.onHand(0, 0), 999);
        about(3, "Returns the number of the movement.");
        due("behind a receipt", TEN, b -> b.issue(5, 0, 1), 1);
        due("behind cancelled ones", MIXED, b -> b.issue(9, 0, 1), 10);
        about(3, "an argument is out of range");
        refusedArgument("all of them, of a closed day", CLOSED, b -> b.issue(365, 6, 1001));
        refusedArgument("one of them, with 60 movements", FULL, b -> b.issue(9, 2, 0));
        refusedArgument("one of them, with nothing on hand", NEW, b -> b.issue(0, 0, 1001));
        closedDays(3, (b, day) -> b.issue(day, 0, 1));
        sixtyMovements(3, b -> b.issue(9, 0, 1));
        refusedState("all that is on hand", FULL, b -> b.issue(9, 2, 50));
    }

    private void issueThatIsInvalid() {
        about(3, "the ledger would be invalid");
        refusedState("one unit", NEW, b -> b.issue(0, 0, 1));
        refusedState("one unit on the last day", NEW, b -> b.issue(364, 5, 1));
        due("all that is on hand", TEN, b -> b.issue(5, 0, 10), 1);
        refusedState("one more than on hand", TEN, b -> b.issue(5, 0, 11));
        due("all, on a later day", TEN, b -> b.issue(364, 0, 10), 1);
        refusedState("one more, on a later day", TEN, b -> b.issue(364, 0, 11));
        refusedState("ahead of the receipt", TEN, b -> b.issue(4, 0, 1));
        refusedState("of another item", TEN, b -> b.issue(5, 1, 1));
        Scene most = NEW.then("999 units", b -> b.receive(0, 0, 999, 1));
        due("999 of 999", most, b -> b.issue(0, 0, 999), 1);
        refusedState("1000 of 999", most, b -> b.issue(0, 0, 1000));
        for (int day : List.of(5, 7, 8, 9)) {
            due("what the issue leaves, day " + day, TEN_ISSUE, b -> b.issue(day, 0, 3), 2);
            refusedState("one more than it leaves, day " + day, TEN_ISSUE, b -> b.issue(day, 0, 4));
        }
        due("what the revaluation leaves", TEN_REVALUED, b -> b.issue(7, 0, 3), 2);
        refusedState("one more than the revaluation leaves", TEN_REVALUED, b -> b.issue(7, 0, 4));
        due("behind the revaluation", TEN_REVALUED, b -> b.issue(8, 0, 10), 2);
        refusedState("one more behind the revaluation", TEN_REVALUED, b -> b.issue(8, 0, 11));
        Scene helped = TEN_ISSUE.then("with 7 more ahead of the issue", b -> b.receive(7, 0, 7, 1));
        due("all, for the later receipt is enough", helped, b -> b.issue(6, 0, 10), 3);
        refusedState("one more than on hand", helped, b -> b.issue(6, 0, 11));
        Scene late = TEN_ISSUE.then("with 7 more behind the issue, of its day", b -> b.receive(8, 0, 7, 1));
        due("what the issue leaves", late, b -> b.issue(7, 0, 3), 3);
        refusedState("one more than the issue leaves", late, b -> b.issue(7, 0, 4));
        due("of that day, all", late, b -> b.issue(8, 0, 10), 3);
        refusedState("of that day, one more", late, b -> b.issue(8, 0, 11));
        Scene tight = TEN_ISSUE.then("3 more issued at last", b -> b.issue(300, 0, 3));
        refusedState("one unit, with none left in the end", tight, b -> b.issue(5, 0, 1));
        Scene freed = TEN_ISSUE.then("with the issue cancelled", b -> b.cancel(1));
        due("a cancelled issue takes nothing", freed, b -> b.issue(6, 0, 10), 2);
        Scene less = TEN.then("with a cancelled receipt", b -> {
            b.receive(5, 0, 5, 1);
            b.cancel(1);
        });
        refusedState("a cancelled receipt brings nothing", less, b -> b.issue(5, 0, 11));
    }

    /** Promise 4. */
    private void revalue() {
        range(4, "`day`: 0 to 364", 0, 364, STOCKED, (b, day) -> b.revalue(day, 0, 1, 1), 6, 6);
        range(4, "`item`: 0 to 5", 0, 5, STOCKED, (b, item) -> b.revalue(0, item, 1, 1), 6, 6);
        range(4, "`quantity`: 1 to 1000: how many units are revalued", 1, 1000, STOCKED, (b, quantity) -> b.revalue(0, 0, quantity, 1), 6, 6);
        refusedArgument("1001 of 2000", STOCKED.then("2000 of item 0", b -> b.receive(0, 0, 1000, 1)), b -> b.revalue(0, 0, 1001, 1));
        range(4, "`cost`: 0 to 1000000: what all these units cost from then on", 0, 1000000, STOCKED, (b, cost) -> b.revalue(0, 0, 1, cost), 6, 6);
        Scene dear = STOCKED.then("all of item 5 at the greatest cost", b -> b.revalue(364, 5, 1000, 1000000));
        due("all units together", dear, b -> b.value(5, 364, false), 1000000);
        due("all units together by average", dear, b -> b.value(5, 364, true), 1000000);
        Scene free = STOCKED.then("all of item 5 at no cost", b -> b.revalue(364, 5, 1000, 0));
        due("no cost", free, b -> b.value(5, 364, false), 0);
        due("no cost by average", free, b -> b.value(5, 364, true), 0);
        due("no cost, but all that was", free, b -> b.revalued(5, 364, false), -50);
        due("the day ahead", free, b -> b.value(5, 363, false), 50);
        about(4, "Posts a revaluation.");
        due("the kind", dear, b -> b.kindOf(6), Layerbook.REVALUATION);
        due("the day", dear, b -> b.dayOf(6), 364);
        due("the quantity stays", dear, b -> b.onHand(5, 364), 1000);
        due("the neighbouring item", dear, b -> b.value(4, 364, false), 40);
        about(4, "Returns the number of the movement.");
        due("behind a receipt", TEN, b -> b.revalue(5, 0, 1, 1), 1);
        due("behind cancelled ones", MIXED, b -> b.revalue(9, 0, 1, 1), 10);
        about(4, "an argument is out of range");
        refusedArgument("all of them, of a closed day", CLOSED, b -> b.revalue(365, 6, 0, -1));
        refusedArgument("one of them, with 60 movements", FULL, b -> b.revalue(9, 2, 1, 1000001));
        refusedArgument("one of them, with nothing on hand", NEW, b -> b.revalue(0, 0, 1, -1));
        closedDays(4, (b, day) -> b.revalue(day, 0, 1, 1));
        sixtyMovements(4, b -> b.revalue(9, 0, 1, 1));
        refusedState("all that is on hand", FULL, b -> b.revalue(9, 2, 50, 1));
    }

    private void revaluationThatIsInvalid() {
        about(4, "the ledger would be invalid");
        refusedState("one unit", NEW, b -> b.revalue(0, 0, 1, 0));
        refusedState("one unit on the last day", NEW, b -> b.revalue(364, 5, 1, 0));
        due("all that is on hand", TEN, b -> b.revalue(5, 0, 10, 1), 1);
        refusedState("one more than on hand", TEN, b -> b.revalue(5, 0, 11, 1));
        due("all, on a later day", TEN, b -> b.revalue(364, 0, 10, 1), 1);
        refusedState("one more, on a later day", TEN, b -> b.revalue(364, 0, 11, 1));
        refusedState("ahead of the receipt", TEN, b -> b.revalue(4, 0, 1, 1));
        refusedState("of another item", TEN, b -> b.revalue(5, 1, 1, 1));
        due("all, though a later issue takes 7", TEN_ISSUE, b -> b.revalue(7, 0, 10, 1), 2);
        refusedState("one more, ahead of the issue", TEN_ISSUE, b -> b.revalue(7, 0, 11, 1));
        due("what the issue of the day leaves", TEN_ISSUE, b -> b.revalue(8, 0, 3, 1), 2);
        refusedState("one more than the issue of the day leaves", TEN_ISSUE, b -> b.revalue(8, 0, 4, 1));
        due("all, though a later revaluation needs 7", TEN_REVALUED, b -> b.revalue(7, 0, 10, 1), 2);
        due("all, behind the revaluation of the day", TEN_REVALUED, b -> b.revalue(8, 0, 10, 1), 2);
        refusedState("one more, behind the revaluation of the day", TEN_REVALUED, b -> b.revalue(8, 0, 11, 1));
        Scene late = TEN.then("5 more on day 6", b -> b.receive(6, 0, 5, 1));
        refusedState("a later receipt does not count", late, b -> b.revalue(5, 0, 11, 1));
        due("on its day it does", late, b -> b.revalue(6, 0, 15, 1), 2);
    }

    /** Promise 5. */
    private void land() {
        range(5, "`day`: 0 to 364", 0, 364, STOCKED, (b, day) -> b.land(day, 1, BY_QUANTITY, 2), 6, 6);
        range(5, "`amount`: 1 to 1000000", 1, 1000000, STOCKED, (b, amount) -> b.land(0, amount, BY_QUANTITY, 2), 6, 6);
        Scene least = STOCKED.then("the least amount", b -> b.land(0, 1, BY_QUANTITY, 2));
        due("the least amount", least, b -> b.partOf(6, 1), 1);
        Scene greatest = STOCKED.then("the greatest amount", b -> b.land(0, 1000000, BY_QUANTITY, 2));
        due("the greatest amount", greatest, b -> b.partOf(6, 1), 1000000);
        range(5, "`basis`: BY_QUANTITY, BY_COST or BY_WEIGHT", BY_QUANTITY, BY_WEIGHT, STOCKED, (b, basis) -> b.land(0, 1, basis, 2), 6, 6);
        due("BY_COST between them", STOCKED, b -> b.land(0, 1, BY_COST, 2), 6);
        about(5, "Posts a landed cost.");
        due("the kind", least, b -> b.kindOf(6), Layerbook.LANDED_COST);
        due("the day", STOCKED.then("landed on the last day", b -> b.land(364, 1, BY_QUANTITY, 2)), b -> b.dayOf(6), 364);
        due("the quantity stays", least, b -> b.onHand(1, 0), 1000);
        due("the neighbouring item", greatest, b -> b.value(2, 0, false), 20);
        about(5, "Returns the number of the movement.");
        due("behind a receipt", TEN, b -> b.land(5, 1, BY_QUANTITY, 1), 1);
        due("behind cancelled ones", MIXED, b -> b.land(5, 1, BY_QUANTITY, 1), 10);
        about(5, "day, amount or basis is out of range");
        refusedArgument("all of them, with a bit of no movement", NEW, b -> b.land(365, 0, 3, ALL_BITS));
        refusedArgument("the day, with a bit of no movement", STOCKED, b -> b.land(365, 1, BY_QUANTITY, BIT_63));
        refusedArgument("the amount, with a bit of no movement", STOCKED, b -> b.land(0, 0, BY_QUANTITY, 1L << 6));
        refusedArgument("the basis, with a bit of no movement", STOCKED, b -> b.land(0, 1, 3, 1L << 6));
        refusedArgument("the basis, over an issue", MIXED, b -> b.land(9, 1, -1, 1L << 3));
        refusedArgument("the amount, of a closed day", CLOSED, b -> b.land(9, 1000001, BY_QUANTITY, 1));
        refusedArgument("the day, with 60 movements", FULL, b -> b.land(-1, 1, BY_QUANTITY, 1));
        about(5, "receipts is 0");
        for (Scene scene : Scene.ALL) {
            refusedArgument("no bit", scene, b -> b.land(0, 1, BY_QUANTITY, 0));
        }
        due("the least bit", STOCKED, b -> b.land(0, 1, BY_QUANTITY, 1), 6);
        closedDays(5, (b, day) -> b.land(day, 1, BY_QUANTITY, 2));
        due("over a receipt of a closed day", CLOSED_9, b -> b.land(10, 1, BY_QUANTITY, 1), 6);
        sixtyMovements(5, b -> b.land(9, 1, BY_QUANTITY, 2));
        refusedState("over the last movement", FULL, b -> b.land(9, 1, BY_QUANTITY, 1L << 59));
    }

    private void landOverBits() {
        about(5, "`receipts`: the receipts over which it is spread: bit m stands for the movement m");
        Scene receipts = NEW.then("59 receipts", b -> {
            for (int number = 0; number < 59; number++) {
                b.receive(0, number % 6, number + 1, 1);
            }
        });
        for (int bit : List.of(0, 1, 30, 31, 32, 33, 57, 58)) {
            Layerbook book = receipts.make();
            due("the number, bit " + bit, book.land(0, 100, BY_QUANTITY, 1L << bit), 59);
            for (int receipt = 0; receipt < 60; receipt++) {
                due("bit " + bit + ", part of " + receipt, book.partOf(59, receipt), receipt == bit ? 100 : 0);
            }
        }
        Layerbook ends = receipts.make();
        ends.land(0, 60, BY_QUANTITY, 1L << 58 | 1);
        due("the last and the first bit, part of the first", ends.partOf(59, 0), 1);
        due("the last and the first bit, part of the last", ends.partOf(59, 58), 59);
        Layerbook all = receipts.make();
        all.land(0, 59 * 60 / 2, BY_QUANTITY, (1L << 59) - 1);
        for (int receipt = 0; receipt < 59; receipt++) {
            due("all bits, part of " + receipt, all.partOf(59, receipt), receipt + 1);
        }
    }

    private void landOverNoMovement() {
        about(5, "a bit of receipts stands for no movement");
        for (Scene scene : Scene.ALL) {
            for (int bit = scene.movements(); bit < 64; bit++) {
                long wrong = 1L << bit;
                refusedIndex("bit " + bit, scene, b -> b.land(364, 1, BY_QUANTITY, wrong));
            }
            refusedIndex("all bits", scene, b -> b.land(364, 1, BY_QUANTITY, ALL_BITS));
            refusedIndex("bit 63 and bit 0", scene, b -> b.land(364, 1, BY_QUANTITY, BIT_63 | 1));
        }
        due("the last movement's bit", STOCKED, b -> b.land(0, 1, BY_QUANTITY, 1L << 5), 6);
        refusedIndex("the next bit beside it", STOCKED, b -> b.land(0, 1, BY_QUANTITY, 3L << 5));
        due("bit 58 of 59 movements", FIFTY_NINE, b -> b.land(1, 1, BY_QUANTITY, 1L << 58), 59);
        refusedIndex("bit 59 of 59 movements", FIFTY_NINE, b -> b.land(1, 1, BY_QUANTITY, 1L << 59));
        refusedState("bit 59 of 60 movements", SIXTY, b -> b.land(1, 1, BY_QUANTITY, 1L << 59));
        refusedIndex("bit 60, though there are 60 movements", SIXTY, b -> b.land(1, 1, BY_QUANTITY, 1L << 60));
        refusedIndex("beside an issue", MIXED, b -> b.land(9, 1, BY_QUANTITY, 1L << 10 | 1L << 3));
        refusedIndex("beside a cancelled receipt", SIXTY_WITH_CANCELLED, b -> b.land(9, 1, BY_QUANTITY, 3L << 59));
        refusedIndex("beside a later receipt", TEN, b -> b.land(4, 1, BY_QUANTITY, 3));
        refusedIndex("beside a receipt without cost", STOCKED, b -> b.land(0, 1, BY_COST, 1L << 6 | 1));
        refusedIndex("of a closed day", CLOSED_364, b -> b.land(0, 1, BY_QUANTITY, 1L << 6));
    }

    private void landOverWrongReceipts() {
        about(5, "one of the receipts is cancelled");
        Scene two = TEN.then("a second receipt of day 6", b -> b.receive(6, 1, 10, 0));
        Scene cancelled = two.then("the second receipt cancelled", b -> b.cancel(1));
        refusedState("alone", cancelled, b -> b.land(6, 1, BY_QUANTITY, 2));
        refusedState("beside the other one", cancelled, b -> b.land(6, 1, BY_QUANTITY, 3));
        due("the other one", cancelled, b -> b.land(6, 1, BY_QUANTITY, 1), 2);
        about(5, "is no receipt");
        for (int number : List.of(3, 4, 5, 6, 8, 9)) {
            refusedState("alone, movement " + number, MIXED, b -> b.land(9, 1, BY_QUANTITY, 1L << number));
            refusedState("beside a receipt, movement " + number, MIXED, b -> b.land(9, 1, BY_QUANTITY, 1L << number | 1));
        }
        due("the last receipt", MIXED, b -> b.land(9, 1, BY_QUANTITY, 1L << 7), 10);
        about(5, "has a later day");
        due("the same day", two, b -> b.land(5, 1, BY_QUANTITY, 1), 2);
        refusedState("the day ahead", two, b -> b.land(4, 1, BY_QUANTITY, 1));
        due("the later one's day", two, b -> b.land(6, 1, BY_QUANTITY, 3), 2);
        refusedState("the earlier one's day", two, b -> b.land(5, 1, BY_QUANTITY, 3));
        Scene last = NEW.then("a receipt of the last day", b -> b.receive(364, 0, 1, 1));
        due("the last day", last, b -> b.land(364, 1, BY_QUANTITY, 1), 1);
        refusedState("the day ahead of the last", last, b -> b.land(363, 1, BY_QUANTITY, 1));
        refusedState("the first day", last, b -> b.land(0, 1, BY_QUANTITY, 1));
        about(5, "the sum of the basis of all of them is 0");
        Scene free = NEW.then("receipts that cost 0, 0 and 1", b -> {
            b.receive(0, 0, 10, 0);
            b.receive(0, 1, 10, 0);
            b.receive(0, 2, 10, 1);
        });
        refusedState("one without cost", free, b -> b.land(0, 1, BY_COST, 1));
        refusedState("two without cost", free, b -> b.land(0, 1, BY_COST, 3));
        due("the least sum, 1", free, b -> b.land(0, 1, BY_COST, 4), 3);
        due("the least sum, with one without cost", free, b -> b.land(0, 1, BY_COST, 7), 3);
        due("by quantity, without cost", free, b -> b.land(0, 1, BY_QUANTITY, 3), 3);
        due("by weight, without cost", free, b -> b.land(0, 1, BY_WEIGHT, 3), 3);
        Scene landed = free.then("a landed cost over the first", b -> b.land(0, 50, BY_QUANTITY, 1));
        refusedState("an earlier landed cost is no cost of the receipt itself", landed, b -> b.land(0, 1, BY_COST, 1));
    }

    /** Promise 6. */
    private void cancel() {
        about(6, "Cancels a movement.");
        due("a landed cost", MIXED, b -> b.cancel(5), 7);
        due("a receipt", MIXED, b -> b.cancel(7), 7);
        due("an issue", MIXED, b -> b.cancel(6), 7);
        due("a revaluation", MIXED, b -> b.cancel(4), 7);
        for (int number : List.of(4, 5, 6, 7)) {
            Scene after = MIXED.then("movement " + number + " cancelled", b -> b.cancel(number));
            due("it is cancelled", after, b -> Check.bit(b.isCancelled(number)), 1);
            due("it has no place", after, b -> b.placeOf(number), Layerbook.NONE);
            due("it keeps its number", after, b -> b.movements(), 10);
        }
        about(6, "Returns how many movements are in the ledger then.");
        due("the only one", TEN, b -> b.cancel(0), 0);
        due("one of two", TEN_ISSUE, b -> b.cancel(1), 1);
        due("one of 58, with 60 movements", FULL, b -> b.cancel(59), 57);
        noSuchMovement(6, (b, number) -> b.cancel(number));
        about(6, "it is cancelled already");
        Scene gone = TEN.then("cancelled", b -> b.cancel(0));
        refusedState("the only one", gone, b -> b.cancel(0));
        refusedState("an issue", MIXED, b -> b.cancel(8));
        refusedState("a landed cost", MIXED, b -> b.cancel(9));
        refusedState("with 60 movements", SIXTY_WITH_CANCELLED, b -> b.cancel(59));
        refusedState("of a closed day", CLOSED, b -> b.cancel(9));
        about(6, "the books are closed for its day");
        due("closed up to the day ahead", TEN.then("closed up to day 4", b -> b.close(4)), b -> b.cancel(0), 0);
        refusedState("closed up to the day", TEN.then("closed up to day 5", b -> b.close(5)), b -> b.cancel(0));
        refusedState("closed up to the day behind", TEN.then("closed up to day 6", b -> b.close(6)), b -> b.cancel(0));
        for (int number = 0; number < 8; number++) {
            int closed = number;
            refusedState("movement " + number, CLOSED, b -> b.cancel(closed));
        }
        refusedState("the first day", CLOSED_0, b -> b.cancel(5));
        due("the first day, not closed", STOCKED, b -> b.cancel(5), 5);
    }

    private void cancelWithLandedCosts() {
        about(6, "it is a receipt over which a landed cost in the ledger is spread");
        Scene receipts = NEW.then("three receipts", b -> {
            b.receive(0, 0, 10, 100);
            b.receive(0, 0, 10, 0);
            b.receive(0, 1, 10, 1);
        });
        Scene one = receipts.then("a landed cost over two of three", b -> b.land(0, 9, BY_QUANTITY, 3));
        refusedState("the first of two", one, b -> b.cancel(0));
        refusedState("the last of two", one, b -> b.cancel(1));
        due("a receipt beside them", one, b -> b.cancel(2), 3);
        due("the landed cost itself", one, b -> b.cancel(3), 3);
        Scene again = one.then("that landed cost cancelled", b -> b.cancel(3));
        due("the first, with the landed cost cancelled", again, b -> b.cancel(0), 2);
        due("the last, with the landed cost cancelled", again, b -> b.cancel(1), 2);
        Scene second = one.then("a second landed cost", b -> b.land(364, 9, BY_QUANTITY, 6));
        Scene left = second.then("the first of two landed costs cancelled", b -> b.cancel(3));
        due("under the cancelled one only", left, b -> b.cancel(0), 3);
        refusedState("under both", left, b -> b.cancel(1));
        refusedState("under the other one", left, b -> b.cancel(2));
        Scene nothing = receipts.then("a landed cost by cost", b -> b.land(0, 9, BY_COST, 3));
        due("a part of 0", nothing, b -> b.partOf(3, 1), 0);
        refusedState("its part is 0, but it is spread over it", nothing, b -> b.cancel(1));
    }

    private void cancelThatIsInvalid() {
        about(6, "the ledger would be invalid");
        Scene receipts = NEW.then("10 and 5 units on day 5", b -> {
            b.receive(5, 0, 10, 1);
            b.receive(5, 0, 5, 1);
        });
        Scene five = receipts.then("5 of 15 issued", b -> b.issue(6, 0, 5));
        Scene six = receipts.then("6 of 15 issued", b -> b.issue(6, 0, 6));
        due("the other receipt is just enough", five, b -> b.cancel(0), 2);
        refusedState("the other receipt is one short", six, b -> b.cancel(0));
        due("the greater one is enough", six, b -> b.cancel(1), 2);
        Scene revaluedFive = receipts.then("5 of 15 revalued", b -> b.revalue(6, 0, 5, 1));
        Scene revaluedSix = receipts.then("6 of 15 revalued", b -> b.revalue(6, 0, 6, 1));
        due("for a revaluation just enough", revaluedFive, b -> b.cancel(0), 2);
        refusedState("for a revaluation one short", revaluedSix, b -> b.cancel(0));
        Scene late = six.then("6 of 15 issued, one more later", b -> b.receive(7, 0, 1, 1));
        refusedState("a receipt behind the issue is too late", late, b -> b.cancel(0));
        Scene sameDay = six.then("6 of 15 issued, one more behind it", b -> b.receive(6, 0, 1, 1));
        refusedState("a receipt of the day behind the issue is too late", sameDay, b -> b.cancel(0));
        Scene oneDay = NEW.then("3 in, 3 out and 3 in on one day", b -> {
            b.receive(5, 0, 3, 1);
            b.issue(5, 0, 3);
            b.receive(5, 0, 3, 1);
        });
        refusedState("on one day the issue needs the receipt ahead of it", oneDay, b -> b.cancel(0));
        due("on one day the receipt behind the issue can go", oneDay, b -> b.cancel(2), 2);
        Scene early = six.then("6 of 15 issued, one more ahead of it", b -> b.receive(0, 0, 1, 1));
        due("a back-dated receipt is enough", early, b -> b.cancel(0), 3);
        Scene middle = six.then("6 of 15 issued, then 9 more in and 18 out", b -> {
            b.receive(7, 0, 9, 1);
            b.issue(8, 0, 18);
        });
        refusedState("the first issue has enough, the last has not", middle, b -> b.cancel(1));
        Scene other = six.then("6 of 15 issued, 100 of another item", b -> b.receive(0, 1, 100, 1));
        refusedState("another item's units do not help", other, b -> b.cancel(0));
        due("another item's receipt can go", other, b -> b.cancel(3), 3);
        due("an issue can always go", six, b -> b.cancel(2), 2);
        due("a revaluation can always go", revaluedSix, b -> b.cancel(2), 2);
    }

    /** Promise 7. */
    private void close() {
        range(7, "`day`: 0 to 364", 0, 364, STOCKED, (b, day) -> b.close(day), Layerbook.NONE, Layerbook.NONE);
        about(7, "Closes the books up to a day, this day included; they are never opened again.");
        refusedState("the day itself", CLOSED_9, b -> b.receive(9, 0, 1, 1));
        due("the next day", CLOSED_9, b -> b.receive(10, 0, 1, 1), 6);
        refusedState("a try to open some days", CLOSED_9, b -> b.close(8));
        refusedState("a try to open all days", CLOSED_9, b -> b.close(0));
        due("with 60 movements", FULL, b -> b.close(364), Layerbook.NONE);
        due("closed days can still be asked for", CLOSED_9, b -> b.onHand(0, 9), 1000);
        about(7, "Returns the day up to which they were closed before; NONE if they were not.");
        due("the first time", NEW, b -> b.close(364), Layerbook.NONE);
        due("behind day 0", CLOSED_0, b -> b.close(1), 0);
        due("the later of two days", CLOSED_9, b -> b.close(364), 9);
        due("behind day 363", CLOSED_363, b -> b.close(364), 363);
        about(7, "day is out of range");
        refusedArgument("an earlier day than any, of closed books", CLOSED_364, b -> b.close(-1));
        refusedArgument("a later day than any, of closed books", CLOSED_364, b -> b.close(365));
        about(7, "they are closed up to this or a later day");
        refusedState("this day, the first", CLOSED_0, b -> b.close(0));
        refusedState("this day", CLOSED_9, b -> b.close(9));
        refusedState("an earlier day", CLOSED_9, b -> b.close(3));
        due("the next day", CLOSED_9, b -> b.close(10), 9);
        refusedState("this day, the last", CLOSED_364, b -> b.close(364));
        refusedState("the day ahead of the last", CLOSED_364, b -> b.close(363));
    }

    /** Promise 8. */
    private void setWeight() {
        range(8, "`item`: 0 to 5", 0, 5, STOCKED, (b, item) -> b.setWeight(item, 100), 1, 1);
        range(8, "`weight`: 1 to 100", 1, 100, STOCKED, (b, weight) -> b.setWeight(0, weight), 1, 1);
        about(8, "Sets the weight of an item, for landed costs that are posted later.");
        Scene weighed = NEW.then("weights 100 and 1", b -> {
            b.receive(0, 0, 1, 1);
            b.receive(0, 5, 1, 1);
            b.land(0, 101, BY_WEIGHT, 3);
            b.setWeight(0, 100);
            b.land(0, 101, BY_WEIGHT, 3);
            b.setWeight(5, 100);
        });
        due("the landed cost ahead of it, odd cent to the first", weighed, b -> b.partOf(2, 0), 51);
        due("the landed cost ahead of it, the other part", weighed, b -> b.partOf(2, 1), 50);
        due("the landed cost behind it, the greatest weight", weighed, b -> b.partOf(3, 0), 100);
        due("the landed cost behind it, the least weight", weighed, b -> b.partOf(3, 1), 1);
        due("by quantity it does not count", weighed.then("by quantity", b -> b.land(0, 100, BY_QUANTITY, 3)), b -> b.partOf(4, 0), 50);
        due("by cost it does not count", weighed.then("by cost", b -> b.land(0, 100, BY_COST, 3)), b -> b.partOf(4, 0), 50);
        about(8, "Returns the previous weight.");
        due("the first one", NEW, b -> b.setWeight(5, 100), 1);
        Scene heavy = FULL.then("60 movements, weight 100", b -> b.setWeight(5, 100));
        due("the greatest, with 60 movements", heavy, b -> b.setWeight(5, 1), 100);
        due("of the neighbouring item", heavy, b -> b.setWeight(4, 1), 100);
        due("of an item without any", heavy, b -> b.setWeight(0, 1), 1);
        due("of closed books", CLOSED, b -> b.setWeight(1, 1), 7);
        due("the same again", heavy, b -> b.setWeight(5, 100), 100);
        about(8, "an argument is out of range");
        refusedArgument("both", MIXED, b -> b.setWeight(6, 101));
        refusedArgument("the weight of an item that has one", MIXED, b -> b.setWeight(1, 0));
    }
}
