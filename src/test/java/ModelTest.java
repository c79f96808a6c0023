import java.util.Random;

/** Long runs of mixed calls, with wrong ones among them: Layerbook must answer as the model does. */
public final class ModelTest {
    private static final int RUNS = 1500;
    private static final int CALLS = 512;
    private static final int KINDS = 25;
    private static final int POSTING_KINDS = 5;
    private static final int CLOSE = 5;
    private static final int MOVEMENTS = 7;

    private final Random random;
    private final Layerbook book = new Layerbook();
    private final Model model = new Model();
    private final int run;
    private final int items;
    private final int days;
    private final int units;
    private final int cents;
    private final StringBuilder told = new StringBuilder();

    private ModelTest(int run) {
        this.run = run;
        random = new Random(run);
        items = 1 + random.nextInt(3);
        days = 1 + random.nextInt(20);
        units = random.nextInt(4) == 0 ? 1000 : 1 + random.nextInt(30);
        cents = random.nextInt(4) == 0 ? 1000000 : 1 + random.nextInt(500);
    }

    public static void main(String[] args) {
        Check.limitTime();
        int[] answers = new int[KINDS];
        int[] thrown = new int[KINDS];
        for (int run = 0; run < RUNS; run++) {
            if (!new ModelTest(run).holds(answers, thrown)) {
                System.exit(1);
            }
        }
        int poor = 0;
        for (int kind = 0; kind < KINDS; kind++) {
            // A kind that hardly ever answers, or never throws, is not tested; movements() has nothing to throw.
            if (answers[kind] < 1000 || thrown[kind] < 100 && kind != MOVEMENTS) {
                poor++;
                System.out.println("call " + kind + ": " + answers[kind] + " answers, " + thrown[kind] + " thrown");
            }
        }
        System.out.println(RUNS + " runs answered as the model does");
        if (poor != 0) {
            System.exit(1);
        }
    }

    private boolean holds(int[] answers, int[] thrown) {
        for (int call = 0; call < CALLS; call++) {
            int kind = nextKind(call);
            int[] given = arguments(kind);
            long mask = mask();
            boolean byAverage = random.nextBoolean();
            String got = answerOf(book, null, kind, given, mask, byAverage);
            String want = answerOf(null, model, kind, given, mask, byAverage);
            told.append("call ").append(kind).append(" of ").append(given[0]).append(' ').append(given[1]).append(' ')
                .append(given[2]).append(' ').append(given[3]).append(' ').append(mask).append(' ').append(byAverage)
                .append(": ").append(got).append('\n');
            if (!got.equals(want)) {
                System.out.println("run " + run + "\n" + told + "due is " + want);
                return false;
            }
            if (got.startsWith("java")) {
                thrown[kind]++;
            } else {
                answers[kind]++;
            }
        }
        return true;
    }

    /** Mostly postings and cancellings at first, questions later; the books are closed at any time, but seldom. */
    private int nextKind(int call) {
        if (random.nextInt(100) == 0) {
            return CLOSE;
        }
        boolean posts = random.nextInt(call < 100 ? 3 : 12) > (call < 100 ? 0 : 10);
        return posts ? random.nextInt(POSTING_KINDS) : CLOSE + 1 + random.nextInt(KINDS - CLOSE - 1);
    }

    private boolean rare() {
        return random.nextInt(60) == 0;
    }

    private int pick(int least, int most, int usualLeast, int usualMost) {
        if (!rare()) {
            return usualLeast + random.nextInt(usualMost - usualLeast + 1);
        }
        int[] odd = {least - 1, most + 1, least, most, Integer.MIN_VALUE, Integer.MAX_VALUE};
        return odd[random.nextInt(odd.length)];
    }

    private int day() {
        return pick(0, 364, 0, Math.min(364, days));
    }

    private int item() {
        return pick(0, 5, 0, items - 1);
    }

    private int number() {
        return pick(0, 59, 0, Math.max(0, model.movements() - (rare() ? 0 : 1)));
    }

    /** Often ahead of the usual days, so that most of them stay open. */
    private int closingDay() {
        return pick(0, 364, 0, random.nextInt(days + 1));
    }

    private long mask() {
        long mask = 0;
        for (int number = 0; number < model.movements(); number++) {
            boolean fine = model.kindOf(number) == 0 && !model.isCancelled(number);
            if (fine && random.nextInt(3) == 0 || random.nextInt(1000) == 0) {
                mask |= 1L << number;
            }
        }
        return rare() ? mask | 1L << random.nextInt(64) : mask;
    }

    private int[] arguments(int kind) {
        switch (kind) {
            case 0: return new int[] {day(), item(), pick(1, 1000, 1, units), pick(0, 1000000, 0, cents)};
            case 1: return new int[] {day(), item(), pick(1, 1000, 1, units), 0};
            case 2: return new int[] {day(), item(), pick(1, 1000, 1, units), pick(0, 1000000, 0, cents)};
            case 3: return new int[] {random.nextInt(3) == 0 ? day() : days, pick(1, 1000000, 1, cents), pick(0, 2, 0, 2), 0};
            case 4: return new int[] {number(), 0, 0, 0};
            case CLOSE: return new int[] {closingDay(), 0, 0, 0};
            case 6: return new int[] {item(), pick(1, 100, 1, 100), 0, 0};
            case 7: return new int[4];
            case 8: case 9: case 10: case 11: return new int[] {number(), 0, 0, 0};
            case 12: return new int[] {numberOf(3), number(), 0, 0};
            case 13: return new int[] {numberOf(1), 0, 0, 0};
            default: return new int[] {item(), day(), pick(0, 59, 0, 4), 0};
        }
    }

    /** Mostly the number of a movement of that kind. */
    private int numberOf(int kind) {
        for (int tries = 0; tries < 20; tries++) {
            int number = number();
            if (number >= 0 && number < model.movements() && model.kindOf(number) == kind) {
                return number;
            }
        }
        return number();
    }

    /** Asks the book or the model, whichever is given. */
    private static String answerOf(Layerbook b, Model m, int kind, int[] a, long mask, boolean byAverage) {
        try {
            long answer;
            switch (kind) {
                case 0: answer = b != null ? b.receive(a[0], a[1], a[2], a[3]) : m.receive(a[0], a[1], a[2], a[3]); break;
                case 1: answer = b != null ? b.issue(a[0], a[1], a[2]) : m.issue(a[0], a[1], a[2]); break;
                case 2: answer = b != null ? b.revalue(a[0], a[1], a[2], a[3]) : m.revalue(a[0], a[1], a[2], a[3]); break;
                case 3: answer = b != null ? b.land(a[0], a[1], a[2], mask) : m.land(a[0], a[1], a[2], mask); break;
                case 4: answer = b != null ? b.cancel(a[0]) : m.cancel(a[0]); break;
                case 5: answer = b != null ? b.close(a[0]) : m.close(a[0]); break;
                case 6: answer = b != null ? b.setWeight(a[0], a[1]) : m.setWeight(a[0], a[1]); break;
                case 7: answer = b != null ? b.movements() : m.movements(); break;
                case 8: answer = b != null ? b.kindOf(a[0]) : m.kindOf(a[0]); break;
                case 9: answer = b != null ? b.dayOf(a[0]) : m.dayOf(a[0]); break;
                case 10: answer = Check.bit(b != null ? b.isCancelled(a[0]) : m.isCancelled(a[0])); break;
                case 11: answer = b != null ? b.placeOf(a[0]) : m.placeOf(a[0]); break;
                case 12: answer = b != null ? b.partOf(a[0], a[1]) : m.partOf(a[0], a[1]); break;
                case 13: answer = b != null ? b.costOf(a[0], byAverage) : m.costOf(a[0], byAverage); break;
                default: answer = b != null ? stock(b, kind, a, byAverage) : stock(m, kind, a, byAverage); break;
            }
            return Long.toString(answer);
        } catch (RuntimeException e) {
            return e.getClass().getName();
        }
    }

    private static long stock(Layerbook b, int kind, int[] a, boolean byAverage) {
        switch (kind) {
            case 14: return b.onHand(a[0], a[1]);
            case 15: return b.available(a[0], a[1]);
            case 16: return b.value(a[0], a[1], byAverage);
            case 17: return b.received(a[0], a[1]);
            case 18: return b.issued(a[0], a[1], byAverage);
            case 19: return b.revalued(a[0], a[1], byAverage);
            case 20: return b.expensed(a[0], a[1], byAverage);
            case 21: return b.layers(a[0], a[1]);
            case 22: return b.layerQuantity(a[0], a[1], a[2]);
            case 23: return b.layerCost(a[0], a[1], a[2]);
            default: return b.layerOrigin(a[0], a[1], a[2]);
        }
    }

    private static long stock(Model m, int kind, int[] a, boolean byAverage) {
        switch (kind) {
            case 14: return m.onHand(a[0], a[1]);
            case 15: return m.available(a[0], a[1]);
            case 16: return m.value(a[0], a[1], byAverage);
            case 17: return m.received(a[0], a[1]);
            case 18: return m.issued(a[0], a[1], byAverage);
            case 19: return m.revalued(a[0], a[1], byAverage);
            case 20: return m.expensed(a[0], a[1], byAverage);
            case 21: return m.layers(a[0], a[1]);
            default: return m.layer(a[0], a[1], a[2], kind - 22);
        }
    }
}
