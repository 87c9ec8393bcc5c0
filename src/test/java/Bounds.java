import java.util.ArrayList;
import java.util.List;
import java.util.function.Supplier;

/** What the tests of boundary cases share: the sentence that is tested, refused calls, numbers out of bounds. */
final class Bounds {
    static final Class<IndexOutOfBoundsException> INDEX = IndexOutOfBoundsException.class;
    static final Class<IllegalArgumentException> ARGUMENT = IllegalArgumentException.class;
    static final Class<IllegalStateException> STATE = IllegalStateException.class;

    /** Keeps each object below the 512 calls for which it answers. */
    private static final int QUESTIONS_AN_OBJECT = 300;

    interface Call {
        Object answer(MourningRibbons x);
    }

    interface OfPerson {
        Object answer(MourningRibbons x, int person);
    }

    interface OfPlace {
        Object answer(MourningRibbons x, int degree, int stage);
    }

    /** A sentence of the document that has a test of its own. */
    record Sentence(String section, String words) {
    }

    private static final List<Sentence> tested = new ArrayList<>();
    private static int checksAhead = 0;

    private Bounds() {
    }

    // ---- sentences

    /** What follows, up to the next call of this, tests this sentence. */
    static void sentence(String section, String words) {
        endSentence();
        tested.add(new Sentence(section, words));
        checksAhead = Check.count();
    }

    static void promise(int number, String words) {
        sentence("Promise " + number, words);
    }

    static void endSentence() {
        if (!tested.isEmpty() && Check.count() == checksAhead) {
            Check.fail(where() + "has no check");
        }
    }

    static List<Sentence> tested() {
        return tested;
    }

    private static String where() {
        Sentence last = tested.get(tested.size() - 1);
        return last.section() + ", \"" + last.words() + "\": ";
    }

    // ---- answers

    static void due(String what, Object got, Object want) {
        Check.same(where() + what, String.valueOf(got), String.valueOf(want));
    }

    static String answer(MourningRibbons x, Call call) {
        try {
            return String.valueOf(call.answer(x));
        } catch (RuntimeException e) {
            return thrown(e.getClass());
        }
    }

    private static String thrown(Class<? extends RuntimeException> exception) {
        return "throws." + exception.getName();
    }

    /** The call has to throw exactly this exception, and to change nothing. */
    static void refuses(Supplier<MourningRibbons> made, String what,
            Class<? extends RuntimeException> exception, Call call) {
        due(what, answer(made.get(), call), thrown(exception));
        changesNothing(made, what, call);
    }

    static void changesNothing(Supplier<MourningRibbons> made, String what, Call call) {
        List<String> due = answersBehind(made, x -> 0);
        List<String> got = answersBehind(made, call);
        int same = 0;
        while (same < due.size() && due.get(same).equals(got.get(same))) {
            same++;
        }
        due(what + ": how many answers behind it are the same", same, due.size());
    }

    private static List<String> answersBehind(Supplier<MourningRibbons> made, Call call) {
        List<String> told = new ArrayList<>();
        List<Call> questions = questions(made.get().people());
        MourningRibbons x = null;
        for (int i = 0; i < questions.size(); i++) {
            if (i % QUESTIONS_AN_OBJECT == 0) {
                x = made.get();
                answer(x, call);
            }
            told.add(answer(x, questions.get(i)));
        }
        x = made.get();
        answer(x, call);
        for (Call later : laterCalls()) {
            told.add(answer(x, later));
        }
        return told;
    }

    private static List<Call> questions(int people) {
        List<Call> all = new ArrayList<>(List.of(x -> x.people(), x -> x.living(), x -> x.day(), x -> x.strictest(),
                x -> x.longestMourner(), x -> x.daysWorn(), x -> x.heaviestLoss(), x -> x.meanDaysLeft(),
                x -> x.digest()));
        for (int colour = 0; colour <= 5; colour++) {
            int of = colour;
            all.add(x -> x.wearing(of));
        }
        for (int person = 0; person < people; person++) {
            addQuestionsOf(person, all);
            for (int other = 0; other < people; other++) {
                addQuestionsOf(person, other, all);
            }
        }
        return all;
    }

    private static void addQuestionsOf(int person, List<Call> all) {
        all.addAll(List.of(x -> x.isAlive(person), x -> x.parentOf(person), x -> x.marriedTo(person),
                x -> x.colourOf(person), x -> x.mourningsOf(person), x -> x.daysLeft(person),
                x -> x.daysUntilLighter(person), x -> x.wouldMourn(person)));
        for (int colour = 1; colour <= 5; colour++) {
            int of = colour;
            all.add(x -> x.daysIn(person, of));
        }
        for (int days : new int[] {0, 1, 2, 5, 10, 20, 29, 49, 200}) {
            all.add(x -> x.colourIn(person, days));
        }
    }

    private static void addQuestionsOf(int person, int other, List<Call> all) {
        all.addAll(List.of(x -> x.degreeOf(person, other), x -> x.daysLeftFor(person, other),
                x -> x.wouldWear(person, other)));
    }

    /** What is hidden from all questions may show in what other calls do later. */
    private static List<Call> laterCalls() {
        return List.of(x -> x.pass(1), x -> x.digest(), x -> x.addPerson(), x -> x.addChild(0), x -> x.marry(0, 2),
                x -> x.die(0), x -> x.digest(), x -> x.release(2, 0), x -> x.setStage(1, 2, 2, 1), x -> x.die(2),
                x -> x.pass(9), x -> x.digest(), x -> x.pass(200), x -> x.digest());
    }

    // ---- numbers out of bounds

    /**
     * Numbers below low and above high: the next ones, the farthest ones, and some that would be taken
     * for a good one if the bits above the 4th, the 8th, the 16th or the 28th were lost.
     */
    static int[] outside(int low, int high) {
        return new int[] {low - 1, high + 1, low - 2, high + 2, Integer.MIN_VALUE, Integer.MAX_VALUE,
            Integer.MIN_VALUE + Math.max(low, 1), high + 16, low + 256, low - 256, low + (1 << 16), low + (1 << 28),
            low - (1 << 28)};
    }

    /** Nobody is there in a new object; elsewhere the numbers go from 0 to the last person. */
    static void needsPerson(String name, OfPerson call) {
        List<Supplier<MourningRibbons>> all = List.of(Made::empty, Made::one, Made::family, Made::full);
        for (Supplier<MourningRibbons> made : all) {
            int people = made.get().people();
            // With 0 people outside(0, -1) begins with -1 and 0.
            for (int person : outside(0, people - 1)) {
                if (person < 0 || person >= people) {
                    refuses(made, name + " of " + person + " with " + people, INDEX, x -> call.answer(x, person));
                }
            }
            for (int person = 0; person < people; person++) {
                int number = person;
                boolean refused = answer(made.get(), x -> call.answer(x, number)).equals(thrown(INDEX));
                due(name + " of " + number + " with " + people + " is refused", refused, false);
            }
        }
    }

    static void needsStage(String name, OfPlace call) {
        for (int degree : outside(1, 4)) {
            for (int stage : new int[] {0, 2}) {
                refusesPlace(name, degree, stage, call);
            }
        }
        for (int stage : outside(0, 2)) {
            for (int degree : new int[] {1, 4}) {
                refusesPlace(name, degree, stage, call);
            }
        }
        // These would be good places in a row that is reckoned by three stages a degree.
        refusesPlace(name, 0, 3, call);
        refusesPlace(name, 5, -1, call);
        refusesPlace(name, 2, -3, call);
        for (int degree = 1; degree <= 4; degree++) {
            for (int stage = 0; stage <= 2; stage++) {
                int row = degree;
                int place = stage;
                boolean refused = answer(Made.family(), x -> call.answer(x, row, place)).equals(thrown(INDEX));
                due(name + " of " + row + ", " + place + " is refused", refused, false);
            }
        }
    }

    private static void refusesPlace(String name, int degree, int stage, OfPlace call) {
        refuses(Made::family, name + " of " + degree + ", " + stage, INDEX, x -> call.answer(x, degree, stage));
    }
}
