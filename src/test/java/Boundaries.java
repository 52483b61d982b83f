import java.io.IOException;
import java.nio.file.Files;
import java.util.List;
import java.util.Map;
import java.util.Set;
import java.util.TreeMap;
import java.util.TreeSet;
import java.util.function.BiFunction;
import java.util.function.Function;
import java.util.function.Supplier;

/** Tests of boundary cases, each under the sentence of the document that names the case. */
abstract class Boundaries {
    static final Class<?> BOUNDS = IndexOutOfBoundsException.class;
    static final Class<?> ARGUMENT = IllegalArgumentException.class;
    static final Class<?> STATE = IllegalStateException.class;
    static final Class<?> MISSING = java.util.NoSuchElementException.class;
    static final Class<?> UNSUPPORTED = UnsupportedOperationException.class;
    private static final int[] NO_GUESTS_OF_SEVEN = {Integer.MIN_VALUE, -1, 7, 8, Integer.MAX_VALUE};
    private static final int[] NO_CHAIRS = {Integer.MIN_VALUE, -1, 40, 64, Integer.MAX_VALUE};
    private static final int[] NO_ROWS = {Integer.MIN_VALUE, -1, 4, Integer.MAX_VALUE};

    private static final Map<String, Set<String>> TESTED = new TreeMap<>();

    private final Checks checks;

    Boundaries(Checks checks) {
        this.checks = checks;
    }

    abstract void all();

    final void terms(String sentence, Runnable test) {
        run("Terms", sentence, test);
    }

    final void promise(int number, String sentence, Runnable test) {
        run("Promise " + number, sentence, test);
    }

    final void run(String section, String sentence, Runnable test) {
        checks.label(section + ", \"" + sentence + "\"");
        checks.same(true, TESTED.computeIfAbsent(section, name -> new TreeSet<>()).add(sentence));
        int before = checks.count();
        test.run();
        checks.same(true, checks.count() > before);
    }

    final void due(Object want, Supplier<Object> call) {
        checks.due(want, call);
    }

    /** The call throws, and leaves a hall that answers like one on which it was not made. */
    final void refused(Class<?> want, Supplier<HatReservations> made, Function<HatReservations, Object> call) {
        HatReservations hall = made.get();
        checks.due(want, () -> call.apply(hall));
        checks.same(Halls.everything(made.get()), Halls.everything(hall));
    }

    /** No exception of this class is thrown on a hall just made. */
    final void notRefused(Class<?> unwanted, Supplier<HatReservations> made, Function<HatReservations, Object> call) {
        HatReservations hall = made.get();
        Object got = Checks.answer(() -> call.apply(hall));
        checks.same("not " + unwanted, unwanted.equals(got) ? got : "not " + unwanted);
    }

    /** A call with a guest knows the guests 0 to 6 of a hall of seven, 0 to 7 of a full one, and none of an empty one. */
    final void guestsAlone(BiFunction<HatReservations, Integer, Object> call) {
        for (int guest : NO_GUESTS_OF_SEVEN) {
            refused(BOUNDS, Halls::busy, hall -> call.apply(hall, guest));
        }
        for (int guest = 0; guest < 7; guest++) {
            int known = guest;
            notRefused(BOUNDS, Halls::busy, hall -> call.apply(hall, known));
        }
        notRefused(BOUNDS, Halls::full, hall -> call.apply(hall, 7));
        refused(BOUNDS, Halls::full, hall -> call.apply(hall, 8));
        refused(BOUNDS, HatReservations::new, hall -> call.apply(hall, 0));
    }

    /** A call with a chair knows the chairs 0 to 39. */
    final void chairsAlone(BiFunction<HatReservations, Integer, Object> call) {
        for (int chair : NO_CHAIRS) {
            refused(BOUNDS, Halls::busy, hall -> call.apply(hall, chair));
        }
        for (int chair = 0; chair < 40; chair++) {
            int known = chair;
            notRefused(BOUNDS, Halls::busy, hall -> call.apply(hall, known));
        }
    }

    /** A call with a row knows the rows 0 to 3. */
    final void rowsAlone(BiFunction<HatReservations, Integer, Object> call) {
        for (int row : NO_ROWS) {
            refused(BOUNDS, Halls::busy, hall -> call.apply(hall, row));
        }
        for (int row = 0; row < 4; row++) {
            int known = row;
            notRefused(BOUNDS, Halls::busy, hall -> call.apply(hall, known));
        }
    }

    /** What the tests quote stands in the document, and what the document says has its tests. */
    static void compareWithDocument(Checks checks) throws IOException {
        if (!Files.exists(Document.PLACE)) {
            System.out.println("no document to compare the sentences with: " + Document.PLACE);
            return;
        }
        checks.label("the sentences of the document");
        Map<String, List<String>> sections = Document.sentences();
        for (String section : TESTED.keySet()) {
            for (String sentence : TESTED.get(section)) {
                boolean stands = sections.getOrDefault(section, List.of()).contains(sentence);
                checks.same(sentence, stands ? sentence : "does not stand under " + section);
            }
        }
        for (String section : sections.keySet()) {
            for (String sentence : sections.get(section)) {
                boolean isTested = TESTED.getOrDefault(section, Set.of()).contains(sentence);
                if (Document.needsTest(section, sentence)) {
                    checks.same(sentence, isTested ? sentence : "has no test under " + section);
                }
            }
        }
    }
}
