import java.util.ArrayList;
import java.util.List;
import java.util.function.Consumer;

/** A book that can be made again and again, and what it answers to a great many questions. */
final class Scene {
    interface Call {
        long on(Layerbook book);
    }

    private record Question(String name, Call call) { }

    /** Few enough that with the calls that make a book none has more than the document's 512. */
    private static final int QUESTIONS_OF_A_BOOK = 400;
    private static final int[] DAYS = {0, 1, 2, 3, 4, 5, 6, 7, 8, 9, 20, 363, 364};
    private static final int[] LANDED = {4, 5, 9, 10, 59};
    private static final List<Question> QUESTIONS = questions();
    private static final List<Question> CHANGES = changes();

    static final Scene NEW = new Scene("a new object", b -> { });

    static final Scene STOCKED = NEW.then("1000 of each item", b -> {
        for (int item = 0; item <= 5; item++) {
            b.receive(0, item, 1000, 10 * item);
        }
    });

    static final Scene MIXED = NEW.then("all kinds of movements", b -> {
        b.setWeight(1, 7);
        b.setWeight(4, 100);
        b.receive(3, 0, 10, 100);
        b.receive(2, 0, 5, 33);
        b.receive(3, 1, 4, 41);
        b.issue(4, 0, 7);
        b.revalue(5, 0, 6, 77);
        b.land(5, 50, Layerbook.BY_WEIGHT, 7);
        b.issue(6, 1, 1);
        b.receive(6, 0, 3, 0);
        b.issue(7, 0, 2);
        b.cancel(8);
        b.land(8, 9, Layerbook.BY_COST, 3);
        b.cancel(9);
    });

    static final Scene PARTLY_CLOSED = MIXED.then("closed up to day 2", b -> b.close(2));

    static final Scene CLOSED = MIXED.then("closed up to day 364", b -> b.close(364));

    /** 60 movements, two of them cancelled; 10 to 59 are receipts of one unit of item 2 on day 9. */
    static final Scene FULL = MIXED.then("60 movements", b -> {
        for (int number = 10; number < 60; number++) {
            b.receive(9, 2, 1, 1);
        }
    });

    static final List<Scene> ALL = List.of(NEW, STOCKED, PARTLY_CLOSED, CLOSED, FULL);

    private final String name;
    private final Consumer<Layerbook> calls;
    private List<String> answers;

    private Scene(String name, Consumer<Layerbook> calls) {
        this.name = name;
        this.calls = calls;
    }

    static Scene of(String name, Consumer<Layerbook> calls) {
        return new Scene(name, calls);
    }

    Scene then(String more, Consumer<Layerbook> others) {
        return new Scene(more, calls.andThen(others));
    }

    Layerbook make() {
        Layerbook book = new Layerbook();
        calls.accept(book);
        return book;
    }

    int movements() {
        return make().movements();
    }

    /** The first question whose answer is another one when a call was made ahead of all questions; null if there is none. */
    String changedBy(Call call) {
        if (answers == null) {
            answers = answersAfter(null);
        }
        List<String> changed = answersAfter(call);
        for (int question = 0; question < answers.size(); question++) {
            String due = answers.get(question);
            if (!changed.get(question).equals(due)) {
                return changed.get(question) + ", due is " + due;
            }
        }
        return null;
    }

    private List<String> answersAfter(Call call) {
        List<String> all = new ArrayList<>();
        for (int from = 0; from < QUESTIONS.size(); from += QUESTIONS_OF_A_BOOK) {
            int to = Math.min(QUESTIONS.size(), from + QUESTIONS_OF_A_BOOK);
            ask(QUESTIONS.subList(from, to), call, all);
        }
        ask(CHANGES, call, all);
        return all;
    }

    private void ask(List<Question> questions, Call first, List<String> answered) {
        Layerbook book = make();
        if (first != null) {
            answer(book, first);
        }
        for (Question question : questions) {
            answered.add(question.name + " answered " + answer(book, question.call));
        }
    }

    private static String answer(Layerbook book, Call call) {
        try {
            return Long.toString(call.on(book));
        } catch (RuntimeException e) {
            return e.getClass().getName();
        }
    }

    private static List<Question> questions() {
        List<Question> all = new ArrayList<>();
        all.add(new Question("movements", b -> b.movements()));
        for (int number = 0; number <= 60; number++) {
            addPosted(all, number);
        }
        for (int landed : LANDED) {
            for (int receipt = 0; receipt <= 10; receipt++) {
                int other = receipt;
                all.add(new Question("partOf " + landed + ", " + other, b -> b.partOf(landed, other)));
            }
        }
        for (int item = 0; item <= 5; item++) {
            for (int day : DAYS) {
                addStock(all, item, day);
            }
        }
        return all;
    }

    private static void addPosted(List<Question> all, int number) {
        String of = " of movement " + number;
        all.add(new Question("kindOf" + of, b -> b.kindOf(number)));
        all.add(new Question("dayOf" + of, b -> b.dayOf(number)));
        all.add(new Question("isCancelled" + of, b -> Check.bit(b.isCancelled(number))));
        all.add(new Question("placeOf" + of, b -> b.placeOf(number)));
        all.add(new Question("costOf" + of, b -> b.costOf(number, false)));
        all.add(new Question("costOf by average" + of, b -> b.costOf(number, true)));
    }

    private static void addStock(List<Question> all, int item, int day) {
        String of = " of item " + item + ", day " + day;
        all.add(new Question("onHand" + of, b -> b.onHand(item, day)));
        all.add(new Question("available" + of, b -> b.available(item, day)));
        all.add(new Question("received" + of, b -> b.received(item, day)));
        for (boolean byAverage : new boolean[] {false, true}) {
            String by = (byAverage ? " by average" : "") + of;
            all.add(new Question("value" + by, b -> b.value(item, day, byAverage)));
            all.add(new Question("issued" + by, b -> b.issued(item, day, byAverage)));
            all.add(new Question("revalued" + by, b -> b.revalued(item, day, byAverage)));
            all.add(new Question("expensed" + by, b -> b.expensed(item, day, byAverage)));
        }
        all.add(new Question("layers" + of, b -> b.layers(item, day)));
        for (int layer = 0; layer < 4; layer++) {
            int place = layer;
            all.add(new Question("layerQuantity " + place + of, b -> b.layerQuantity(item, day, place)));
            all.add(new Question("layerCost " + place + of, b -> b.layerCost(item, day, place)));
            all.add(new Question("layerOrigin " + place + of, b -> b.layerOrigin(item, day, place)));
        }
    }

    /** Calls that show what no question shows: the weights, the closed days, and how postings go on. */
    private static List<Question> changes() {
        List<Question> all = new ArrayList<>();
        all.add(new Question("then land", b -> b.land(364, 1000, Layerbook.BY_WEIGHT, 7)));
        for (int receipt = 0; receipt < 3; receipt++) {
            int other = receipt;
            all.add(new Question("then partOf " + other, b -> b.partOf(b.movements() - 1, other)));
        }
        for (int item = 0; item <= 5; item++) {
            int weighed = item;
            all.add(new Question("then setWeight of item " + item, b -> b.setWeight(weighed, 9)));
            all.add(new Question("then issue of item " + item, b -> b.issue(364, weighed, 1)));
        }
        all.add(new Question("then receive", b -> b.receive(0, 5, 1, 1)));
        for (int number = 60; number >= 0; number--) {
            int cancelled = number;
            all.add(new Question("then cancel " + number, b -> b.cancel(cancelled)));
        }
        all.add(new Question("then close", b -> b.close(364)));
        return all;
    }

    @Override
    public String toString() {
        return name;
    }
}
