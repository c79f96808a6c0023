import java.util.List;

/** Promises 9 to 15, sentence by sentence. */
final class PostedEdges extends Edges {
    private static final int BY_QUANTITY = Layerbook.BY_QUANTITY, BY_COST = Layerbook.BY_COST;

    private static final Scene NEW = Scene.NEW, MIXED = Scene.MIXED, CLOSED = Scene.CLOSED, FULL = Scene.FULL;

    /** 59 receipts of one unit, and a landed cost of 58 over all of them. */
    private static final Scene FULL_LANDED = NEW.then("a landed cost as the 60th movement", b -> {
        for (int number = 0; number < 59; number++) {
            b.receive(0, number % 6, 1, 1);
        }
        b.land(0, 58, BY_QUANTITY, (1L << 59) - 1);
    });

    PostedEdges(Check check, Document document) {
        super(check, document);
    }

    void run() {
        movements();
        kindOf();
        dayOf();
        isCancelled();
        placeOf();
        partOf();
        partOfWrong();
        costOf();
        costOfWrong();
    }

    /** Promise 9. */
    private void movements() {
        about(9, "Returns how many movements have been posted, with cancelled ones.");
        due("none", NEW, b -> b.movements(), 0);
        Scene one = NEW.then("one receipt", b -> b.receive(364, 0, 1, 1));
        due("one", one, b -> b.movements(), 1);
        due("one, cancelled", one.then("one receipt, cancelled", b -> b.cancel(0)), b -> b.movements(), 1);
        due("two of ten cancelled", MIXED, b -> b.movements(), 10);
        due("as many as there can be", FULL, b -> b.movements(), 60);
        due("closed books", CLOSED, b -> b.movements(), 10);
        due("one posted behind a cancelled one", MIXED.then("one more", b -> b.receive(0, 0, 1, 1)), b -> b.movements(), 11);
    }

    /** Promise 10. */
    private void kindOf() {
        about(10, "Returns the kind of a movement: RECEIPT, ISSUE, REVALUATION or LANDED_COST.");
        int[] kinds = {0, 0, 0, 1, 2, 3, 1, 0, 1, 3};
        for (int number = 0; number < kinds.length; number++) {
            int asked = number;
            due("movement " + number, MIXED, b -> b.kindOf(asked), kinds[number]);
        }
        due("the last of 60", FULL, b -> b.kindOf(59), Layerbook.RECEIPT);
        due("the last of 60, a landed cost", FULL_LANDED, b -> b.kindOf(59), Layerbook.LANDED_COST);
        due("a cancelled issue", MIXED, b -> b.kindOf(8), Layerbook.ISSUE);
        due("a cancelled landed cost", MIXED, b -> b.kindOf(9), Layerbook.LANDED_COST);
        noSuchMovement(10, (b, number) -> b.kindOf(number));
    }

    /** Promise 11. */
    private void dayOf() {
        about(11, "Returns the day of a movement.");
        int[] days = {3, 2, 3, 4, 5, 5, 6, 6, 7, 8};
        for (int number = 0; number < days.length; number++) {
            int asked = number;
            due("movement " + number, MIXED, b -> b.dayOf(asked), days[number]);
        }
        Scene ends = NEW.then("the last and the first day", b -> {
            b.receive(364, 0, 1, 1);
            b.receive(0, 0, 1, 1);
        });
        due("the last day", ends, b -> b.dayOf(0), 364);
        due("the first day", ends, b -> b.dayOf(1), 0);
        due("the last of 60", FULL, b -> b.dayOf(59), 9);
        noSuchMovement(11, (b, number) -> b.dayOf(number));
    }

    /** Promise 12. */
    private void isCancelled() {
        about(12, "Tells whether a movement is cancelled.");
        for (int number = 0; number < 10; number++) {
            int asked = number;
            due("movement " + number, MIXED, b -> Check.bit(b.isCancelled(asked)), number >= 8 ? 1 : 0);
        }
        due("the last of 60", FULL, b -> Check.bit(b.isCancelled(59)), 0);
        Scene gone = FULL.then("60 movements, the last one cancelled", b -> b.cancel(59));
        due("the last of 60, cancelled", gone, b -> Check.bit(b.isCancelled(59)), 1);
        due("the one ahead of it", gone, b -> Check.bit(b.isCancelled(58)), 0);
        noSuchMovement(12, (b, number) -> Check.bit(b.isCancelled(number)));
    }

    /** Promise 13. */
    private void placeOf() {
        about(13, "Returns the place of a movement in the ledger, from 0 on; NONE if it is cancelled.");
        int[] places = {1, 0, 2, 3, 4, 5, 6, 7, Layerbook.NONE, Layerbook.NONE};
        for (int number = 0; number < places.length; number++) {
            int asked = number;
            due("movement " + number, MIXED, b -> b.placeOf(asked), places[number]);
        }
        due("the only one", NEW.then("one receipt", b -> b.receive(364, 0, 1, 1)), b -> b.placeOf(0), 0);
        due("the only one, cancelled", NEW.then("none left", b -> b.cancel(b.receive(0, 0, 1, 1))), b -> b.placeOf(0), Layerbook.NONE);
        due("the last of 60", FULL_LANDED, b -> b.placeOf(59), 59);
        due("the last of 60, two of them cancelled", FULL, b -> b.placeOf(59), 57);
        due("the first one behind the cancelled ones", FULL, b -> b.placeOf(10), 8);
        Scene backwards = NEW.then("60 receipts, each a day ahead of the one before", b -> {
            for (int number = 0; number < 60; number++) {
                b.receive(364 - number, 0, 1, 1);
            }
        });
        due("the last day's", backwards, b -> b.placeOf(0), 59);
        due("the first day's", backwards, b -> b.placeOf(59), 0);
        due("the one ahead of the last", backwards, b -> b.placeOf(1), 58);
        noSuchMovement(13, (b, number) -> b.placeOf(number));
    }

    /** Promise 14. */
    private void partOf() {
        about(14, "Returns the part of a landed cost, cancelled or not, that a receipt got; 0 if it is not spread over this movement.");
        due("50 * 10 / 43 = 11, remainder 27, and a cent", MIXED, b -> b.partOf(5, 0), 12);
        due("50 * 5 / 43 = 5, remainder 35, and a cent", MIXED, b -> b.partOf(5, 1), 6);
        due("50 * 28 / 43 = 32, remainder 24", MIXED, b -> b.partOf(5, 2), 32);
        due("of a cancelled one, 9 * 100 / 133 and a cent", MIXED, b -> b.partOf(9, 0), 7);
        due("of a cancelled one, 9 * 33 / 133", MIXED, b -> b.partOf(9, 1), 2);
        for (int number = 3; number < 10; number++) {
            int other = number;
            due("not spread over movement " + number, MIXED, b -> b.partOf(5, other), 0);
        }
        due("itself, the last of 60", FULL_LANDED, b -> b.partOf(59, 59), 0);
        due("the last receipt that gets a cent", FULL_LANDED, b -> b.partOf(59, 57), 1);
        due("the last receipt, too late for a cent", FULL_LANDED, b -> b.partOf(59, 58), 0);
        due("a receipt posted behind it", FULL, b -> b.partOf(5, 59), 0);
        Scene gone = MIXED.then("landed cost and receipt cancelled", b -> {
            b.cancel(6);
            b.cancel(5);
            b.cancel(2);
        });
        due("both cancelled", gone, b -> b.partOf(5, 2), 32);
        Scene free = NEW.then("receipts that cost 0 and 1", b -> {
            b.receive(0, 0, 1, 0);
            b.receive(0, 0, 1, 1);
            b.land(0, 1000000, BY_COST, 3);
        });
        due("a part of 0", free, b -> b.partOf(2, 0), 0);
        due("all of the greatest amount", free, b -> b.partOf(2, 1), 1000000);
    }

    private void partOfWrong() {
        noSuchMovement(14, (b, number) -> b.partOf(number, 0));
        noSuchMovement(14, (b, number) -> b.partOf(5, number));
        noSuchMovement(14, (b, number) -> b.partOf(number, number));
        refusedIndex("behind a receipt, which is no landed cost", MIXED, b -> b.partOf(0, 10));
        refusedIndex("ahead of the first, with a receipt", MIXED, b -> b.partOf(0, -1));
        refusedIndex("with a landed cost, the next number", MIXED, b -> b.partOf(5, 10));
        refusedIndex("with a landed cost, 60 movements", FULL_LANDED, b -> b.partOf(59, 60));
        about(14, "the first movement is no landed cost");
        for (int number : List.of(0, 3, 4, 8)) {
            refusedState("movement " + number, MIXED, b -> b.partOf(number, 0));
            refusedState("movement " + number + " and the landed cost", MIXED, b -> b.partOf(number, 5));
        }
        refusedState("the last of 60", FULL, b -> b.partOf(59, 0));
        due("a cancelled landed cost is one", MIXED, b -> b.partOf(9, 8), 0);
    }

    /** Promise 15. */
    private void costOf() {
        about(15, "Returns the cost of an issue.");
        due("33 and 100 * 2 / 10", MIXED, b -> b.costOf(3, false), 53);
        due("133 * 7 / 15", MIXED, b -> b.costOf(3, true), 62);
        due("73 / 4", MIXED, b -> b.costOf(6, false), 18);
        due("73 / 4 by average", MIXED, b -> b.costOf(6, true), 18);
        due("of a closed day", CLOSED, b -> b.costOf(3, false), 53);
        Scene free = NEW.then("issued at no cost", b -> {
            b.receive(0, 0, 1, 0);
            b.issue(0, 0, 1);
        });
        due("no cost", free, b -> b.costOf(1, false), 0);
        due("no cost by average", free, b -> b.costOf(1, true), 0);
        Scene dear = NEW.then("the 60th movement takes all of 58000000", b -> {
            b.receive(364, 5, 1000, 1000000);
            for (int number = 1; number < 58; number++) {
                b.land(364, 1000000, BY_QUANTITY, 1);
            }
            b.receive(364, 5, 1000, 1000000);
            b.issue(364, 5, 1000);
        });
        due("the dearest layer", dear, b -> b.costOf(59, false), 58000000);
        due("59000000 * 1000 / 2000", dear, b -> b.costOf(59, true), 29500000);
    }

    private void costOfWrong() {
        noSuchMovement(15, (b, number) -> b.costOf(number, false));
        noSuchMovement(15, (b, number) -> b.costOf(number, true));
        about(15, "it is no issue");
        for (int number : List.of(0, 4, 5, 7, 9)) {
            refusedState("movement " + number, MIXED, b -> b.costOf(number, false));
            refusedState("movement " + number + " by average", MIXED, b -> b.costOf(number, true));
        }
        refusedState("the last of 60", FULL, b -> b.costOf(59, true));
        about(15, "cancelled");
        refusedState("the issue", MIXED, b -> b.costOf(8, false));
        refusedState("the issue by average", MIXED, b -> b.costOf(8, true));
        due("the issue, not cancelled yet", NEW.then("not cancelled", b -> {
            b.receive(0, 0, 2, 5);
            b.issue(0, 0, 1);
        }), b -> b.costOf(1, false), 2);
    }
}
