import java.util.ArrayList;
import java.util.List;

/** The boundary cases that stand under "What it is" and "Terms". */
final class BoundsOfTerms {
    private static final String TERMS = "Terms";

    private BoundsOfTerms() {
    }

    static void run() {
        calls512();
        time();
        people();
        marriedPeople();
        steps();
        degrees();
        code();
        stricter();
        stageByStage();
        whoMourns();
        forGood();
        howLong();
        noMoreMourning();
        strictestIsWorn();
        refusedCallsChangeNothing();
        firstNamedIsThrown();
    }

    // ---- the life of an object

    private static void calls512() {
        Bounds.sentence("What it is",
                "An object is used for at most 512 calls after it has been made; what later calls answer is free.");
        lastCall("day()", x -> x.day(), 492 * 200);
        lastCall("pass(200)", x -> x.pass(200), 0);
        lastCall("daysWorn()", x -> x.daysWorn(), 15 * 60);
        lastCall("wearing(0)", x -> x.wearing(0), 15);
        lastCall("mourningsOf(1)", x -> x.mourningsOf(1), 0);
        lastCall("daysLeftFor(15, 0)", x -> x.daysLeftFor(15, 0), 0);
        lastCall("colourIn(1, 200)", x -> x.colourIn(1, 200), 0);
        lastCall("daysUntilLighter(1)", x -> x.daysUntilLighter(1), -1);
        lastCall("meanDaysLeft()", x -> x.meanDaysLeft(), 0.0);
        lastCall("die(1)", x -> x.die(1), 14);
        lastCall("wouldWear(2, 1)", x -> x.wouldWear(2, 1), 3);
        lastCall("heaviestLoss()", x -> x.heaviestLoss(), 1);
        MourningRibbons y = new MourningRibbons();
        for (int call = 0; call < 510; call++) {
            Bounds.answer(y, x -> x.addChild(0));
        }
        Bounds.due("digest() behind 510 refused calls", y.digest(), new MourningRibbons().digest());
        Bounds.due("addPerson() behind them", y.addPerson(), 0);
    }

    private static void lastCall(String what, Bounds.Call call, Object want) {
        MourningRibbons x = new MourningRibbons();
        x.setStage(1, 0, 5, 60);
        x.setStage(2, 1, 3, 7);
        Made.star(x, 16);
        x.die(0);
        for (int calls = 19; calls < 511; calls++) {
            x.pass(200);
        }
        Bounds.due(what + " as the 512th call", Bounds.answer(x, call), want);
    }

    private static void time() {
        Bounds.sentence(TERMS, "Time is told in days, from 0.");
        MourningRibbons x = Made.couple(5, 1, 3, 1, 0, 0);
        Bounds.due("day() at first", x.day(), 0);
        Bounds.due("die(0) on the day 0", x.die(0), 2);
        Bounds.due("colourOf(1) on the day 0", x.colourOf(1), 5);
        x.pass(1);
        Bounds.due("day() then", x.day(), 1);
        Bounds.due("colourOf(1) on the day 1", x.colourOf(1), 3);
    }

    // ---- people

    private static void people() {
        Bounds.sentence(TERMS, "At most 16, numbered from 0; each has a parent, or none, is alive, or dead, "
                + "and is married to one other person, or to nobody.");
        MourningRibbons x = Made.line(new MourningRibbons(), 16);
        Bounds.due("people() of 16", x.people(), 16);
        Bounds.due("addPerson() with 16", Bounds.answer(x, y -> y.addPerson()), "throws.java.lang.IllegalStateException");
        Bounds.due("addChild(15) with 16", Bounds.answer(x, y -> y.addChild(15)), "throws.java.lang.IllegalStateException");
        Bounds.due("people() behind that", x.people(), 16);
        for (int person = 0; person < 16; person++) {
            Bounds.due("parentOf(" + person + ")", x.parentOf(person), person - 1);
            Bounds.due("marriedTo(" + person + ")", x.marriedTo(person), -1);
            Bounds.due("isAlive(" + person + ")", x.isAlive(person), true);
        }
        for (int person = 0; person < 8; person++) {
            x.marry(person, 15 - person);
        }
        for (int person = 0; person < 16; person++) {
            Bounds.due("marriedTo(" + person + ") of eight couples", x.marriedTo(person), 15 - person);
            x.die(person);
        }
        for (int person = 0; person < 16; person++) {
            Bounds.due("isAlive(" + person + ") as all are dead", x.isAlive(person), false);
            Bounds.due("parentOf(" + person + ") as all are dead", x.parentOf(person), person - 1);
        }
    }

    private static void marriedPeople() {
        Bounds.sentence(TERMS, "People who are married stay so as one of them dies; one whose spouse is dead can be "
                + "married anew, and the dead one is married to nobody then.");
        MourningRibbons x = Made.strangers(new MourningRibbons(), 16);
        x.marry(0, 15);
        x.die(15);
        Bounds.due("marriedTo the dead one", x.marriedTo(0), 15);
        Bounds.due("marriedTo of the dead one", x.marriedTo(15), 0);
        Bounds.due("marry anew", x.marry(0, 1), 0);
        Bounds.due("marriedTo of the dead one then", x.marriedTo(15), -1);
        x.die(1);
        x.marry(2, 0);
        Bounds.due("marriedTo of the third spouse", x.marriedTo(2), 0);
        Bounds.due("marriedTo of one married three times", x.marriedTo(0), 2);
        Bounds.due("marriedTo of the second spouse", x.marriedTo(1), -1);
        x.marry(3, 4);
        x.die(0);
        x.die(3);
        x.marry(4, 2);
        Bounds.due("marriedTo of two who lost theirs", x.marriedTo(2) * 100 + x.marriedTo(4), 402);
        Bounds.due("marriedTo of the one dead", x.marriedTo(0), -1);
        Bounds.due("marriedTo of the other dead", x.marriedTo(3), -1);
        x.die(2);
        x.die(4);
        Bounds.due("marriedTo as both are dead", x.marriedTo(2) * 100 + x.marriedTo(4), 402);
    }

    private static void steps() {
        Bounds.sentence(TERMS, "Steps lead from a person to the parent, to each child, and to the one to whom this "
                + "person is married; dead people count as well.");
        MourningRibbons x = Made.strangers(new MourningRibbons(), 3);
        x.addChild(0);
        x.addChild(0);
        x.marry(1, 3);
        int[] of3 = {1, 1, 0, 0, 2};
        for (int person = 0; person < 5; person++) {
            Bounds.due("degreeOf(3, " + person + ")", x.degreeOf(3, person), of3[person]);
        }
        x.marry(0, 2);
        Bounds.due("degreeOf(2, 3), of the parent's spouse", x.degreeOf(2, 3), 2);
        Bounds.due("degreeOf(2, 1), spouse of the spouse's child", x.degreeOf(2, 1), 3);
        for (int person = 0; person < 4; person++) {
            x.die(person);
        }
        Bounds.due("degreeOf(4, 0), a dead parent", x.degreeOf(4, 0), 1);
        Bounds.due("degreeOf(4, 2), over dead ones to a dead one", x.degreeOf(4, 2), 2);
        Bounds.due("degreeOf(4, 1), over two dead ones", x.degreeOf(4, 1), 3);
        Bounds.due("degreeOf(1, 2), all dead", x.degreeOf(1, 2), 3);
        MourningRibbons y = Made.strangers(new MourningRibbons(), 3);
        y.marry(0, 1);
        y.die(1);
        y.marry(0, 2);
        Bounds.due("degreeOf(0, 1), married no more", y.degreeOf(0, 1), 0);
        Bounds.due("degreeOf(1, 0), married no more", y.degreeOf(1, 0), 0);
    }

    private static void degrees() {
        Bounds.sentence(TERMS, "The degree of two people is the fewest steps from one to the other, if these are "
                + "1 to 4; otherwise they are not kin.");
        allDegrees(Made.line(new MourningRibbons(), 16), 16, 100);
        allDegrees(Made.strangers(new MourningRibbons(), 16), 0, 100);
        for (int people = 3; people <= 12; people++) {
            MourningRibbons ring = Made.line(new MourningRibbons(), people);
            ring.marry(0, people - 1);
            allDegrees(ring, people, people);
        }
    }

    /** In a line (of the first people) each is one step from the next; in a ring the first from the last, too. */
    private static void allDegrees(MourningRibbons x, int inLine, int around) {
        int people = x.people();
        for (int a = 0; a < people; a++) {
            for (int b = 0; b < people; b++) {
                int apart = a > b ? a - b : b - a;
                int steps = Math.min(apart, around - apart);
                boolean kin = inLine > 0 && steps >= 1 && steps <= 4;
                Bounds.due("degreeOf(" + a + ", " + b + ") of " + people, x.degreeOf(a, b), kin ? steps : 0);
            }
        }
    }

    // ---- the code

    private static void code() {
        Bounds.sentence(TERMS, "For each degree, 1 to 4, there are three stages, 0 to 2; each has a colour, 0 to 5, "
                + "and some days, 0 to 60 (0 both, at first).");
        for (int place = 0; place < 12; place++) {
            MourningRibbons x = new MourningRibbons();
            Bounds.due("setStage of 5 and 60", x.setStage(1 + place / 3, place % 3, 5, 60), 60);
            stagesAre(x, place, 5, 60);
            Bounds.due("setStage of 0 and 60", x.setStage(1 + place / 3, place % 3, 0, 60), 60);
            stagesAre(x, place, 0, 60);
            Bounds.due("setStage of 5 and 0", x.setStage(1 + place / 3, place % 3, 5, 0), 0);
            stagesAre(x, place, 5, 0);
        }
    }

    /** The stage at this place is so; all others are as at first. */
    private static void stagesAre(MourningRibbons x, int set, int colour, int days) {
        for (int place = 0; place < 12; place++) {
            int degree = 1 + place / 3;
            int stage = place % 3;
            String of = "(" + degree + ", " + stage + ")";
            Bounds.due("stageColour" + of, x.stageColour(degree, stage), place == set ? colour : 0);
            Bounds.due("stageDays" + of, x.stageDays(degree, stage), place == set ? days : 0);
        }
    }

    private static void stricter() {
        Bounds.sentence(TERMS, "A greater number is a stricter colour; 0 is none.");
        for (int older = 0; older <= 5; older++) {
            for (int newer = 0; newer <= 5; newer++) {
                MourningRibbons x = Made.line(Made.nearest(older, 10, 0, 0, 0, 0), 3);
                x.die(0);
                x.setStage(1, 0, newer, 10);
                x.die(2);
                int worn = Math.max(older, newer);
                Bounds.due("colourOf of " + older + " and " + newer, x.colourOf(1), worn);
                Bounds.due("wearing(0) of " + older + " and " + newer, x.wearing(0), worn == 0 ? 1 : 0);
            }
        }
    }

    // ---- mourning

    private static void stageByStage() {
        Bounds.sentence(TERMS, "As somebody dies, each living person who is kin mourns this one by the degree: from "
                + "this day on in the colour of the stage 0 for its days, then in that of the stage 1 for its days, "
                + "then in that of the stage 2.");
        colours(Made.nearest(5, 1, 2, 2, 4, 3), "52244400");
        colours(Made.nearest(5, 0, 2, 1, 4, 0), "2000");
        colours(Made.nearest(5, 0, 2, 0, 4, 1), "4000");
        colours(Made.nearest(5, 1, 2, 0, 4, 1), "5400");
        colours(Made.nearest(5, 1, 2, 0, 4, 0), "5000");
        colours(Made.nearest(0, 1, 2, 1, 0, 1), "0200");
        colours(Made.nearest(3, 2, 0, 1, 1, 1), "330100");
        colours(Made.nearest(5, 0, 2, 0, 4, 0), "0000");
        colours(Made.nearest(1, 60, 2, 60, 3, 60),
                "1".repeat(60) + "2".repeat(60) + "3".repeat(60) + "0".repeat(20));
    }

    /** The colours that the child wears day by day from the parent's death on. */
    private static void colours(MourningRibbons x, String due) {
        Made.line(x, 2);
        x.die(0);
        for (int day = 0; day < due.length(); day++) {
            Bounds.due("colourIn(1, " + day + ") of " + due, x.colourIn(1, day), due.charAt(day) - '0');
        }
        int steps = Math.min(due.length(), 90);
        for (int day = 0; day < steps; day++) {
            Bounds.due("colourOf(1) on the day " + day + " of " + due, x.colourOf(1), due.charAt(day) - '0');
            x.pass(1);
        }
    }

    private static void whoMourns() {
        MourningRibbons x = new MourningRibbons();
        for (int degree = 1; degree <= 4; degree++) {
            x.setStage(degree, 0, degree, degree * 10);
        }
        Made.line(x, 13);
        x.die(5);
        Bounds.due("die(6): three on one side live, four on the other", x.die(6), 7);
        int[] left = {0, 0, 40, 30, 20, 0, 0, 10, 20, 30, 40, 0, 0};
        for (int person = 0; person < 13; person++) {
            Bounds.due("daysLeftFor(" + person + ", 6)", x.daysLeftFor(person, 6), left[person]);
        }
    }

    private static void forGood() {
        Bounds.sentence(TERMS, "Stages are as they are in the code on the day of the death, for good; degrees, too.");
        MourningRibbons x = Made.line(Made.nearest(4, 2, 2, 2, 0, 0), 3);
        x.setStage(2, 0, 3, 60);
        x.setStage(1, 0, 5, 1);
        x.addPerson();
        x.die(0);
        x.setStage(1, 0, 1, 60);
        x.setStage(1, 2, 1, 60);
        x.setStage(2, 0, 0, 0);
        Bounds.due("colourOf(1), the code as it was last on the day", x.colourOf(1), 5);
        Bounds.due("daysLeft(1), the code as it was last on the day", x.daysLeft(1), 3);
        Bounds.due("daysLeft(2), whose degree has no days now", x.daysLeft(2), 60);
        x.marry(1, 3);
        Bounds.due("mourningsOf one who is kin from the next moment on", x.mourningsOf(3), 0);
        x.addChild(1);
        Bounds.due("mourningsOf one who is born later", x.mourningsOf(4), 0);
        x.pass(1);
        Bounds.due("colourOf(1) a day later", x.colourOf(1), 2);
        MourningRibbons y = Made.strangers(Made.nearest(4, 9, 0, 0, 0, 0), 3);
        y.setStage(2, 0, 1, 5);
        y.marry(0, 1);
        y.die(1);
        y.marry(0, 2);
        Bounds.due("daysLeftFor(0, 1), no kin any more", y.daysLeftFor(0, 1), 9);
        Bounds.due("colourOf(0), no kin any more", y.colourOf(0), 4);
    }

    private static void howLong() {
        Bounds.sentence(TERMS, "A mourning lasts as many days as its stages together; with 0 days there is none.");
        int[][] days = {{0, 0, 0}, {1, 0, 0}, {0, 1, 0}, {0, 0, 1}, {1, 1, 1}, {60, 0, 60}, {60, 60, 60}};
        for (int[] of : days) {
            int together = of[0] + of[1] + of[2];
            MourningRibbons x = Made.line(Made.nearest(5, of[0], 5, of[1], 5, of[2]), 2);
            String what = " of " + together + " days";
            Bounds.due("die(0)" + what, x.die(0), together > 0 ? 1 : 0);
            Bounds.due("daysLeft(1)" + what, x.daysLeft(1), together);
            Bounds.due("mourningsOf(1)" + what, x.mourningsOf(1), together > 0 ? 1 : 0);
            if (together > 1) {
                x.pass(together - 1);
                Bounds.due("daysLeft(1) on the last day" + what, x.daysLeft(1), 1);
                Bounds.due("colourOf(1) on the last day" + what, x.colourOf(1), 5);
            }
            x.pass(1);
            Bounds.due("daysLeft(1) behind" + what, x.daysLeft(1), 0);
            Bounds.due("mourningsOf(1) behind" + what, x.mourningsOf(1), 0);
            Bounds.due("colourOf(1) behind" + what, x.colourOf(1), 0);
        }
    }

    private static void noMoreMourning() {
        Bounds.sentence(TERMS, "One who dies mourns no more.");
        MourningRibbons x = Made.star(Made.nearest(5, 60, 5, 60, 5, 60), 16);
        x.setStage(2, 0, 4, 60);
        for (int person = 0; person < 15; person++) {
            x.die(person);
        }
        Bounds.due("mourningsOf(15), alive", x.mourningsOf(15), 15);
        x.die(15);
        for (int person = 0; person < 16; person++) {
            Bounds.due("mourningsOf(" + person + "), dead", x.mourningsOf(person), 0);
            Bounds.due("colourIn(" + person + ", 1), dead", x.colourIn(person, 1), 0);
            Bounds.due("daysLeft(" + person + "), dead", x.daysLeft(person), 0);
        }
        Bounds.due("pass(1) with all dead", x.pass(1), 0);
        Bounds.due("daysWorn() with all dead on the first day", x.daysWorn(), 0);
        MourningRibbons y = Made.line(Made.coded(), 2);
        y.die(1);
        Bounds.due("die(0): the dead child does not begin to mourn", y.die(0), 0);
    }

    private static void strictestIsWorn() {
        Bounds.sentence(TERMS, "On a day a person wears the strictest of the colours of all mournings on this day "
                + "(0, if there is none).");
        MourningRibbons x = Made.star(new MourningRibbons(), 16);
        Bounds.due("colourOf(15) without a mourning", x.colourOf(15), 0);
        x.setStage(1, 0, 1, 60);
        // The siblings 1 to 14 are mourned in the colours 1 to 5 and again: 5 for 5 and 10, and so on.
        for (int person = 0; person < 15; person++) {
            x.setStage(2, 0, person == 0 ? 0 : 1 + (person - 1) % 5, 60);
            x.die(person);
        }
        for (int colour = 5; colour >= 1; colour--) {
            Bounds.due("colourOf(15), the strictest of those left", x.colourOf(15), colour);
            for (int person = colour; person < 15; person += 5) {
                x.release(15, person);
            }
        }
        Bounds.due("colourOf(15), the parent's left", x.colourOf(15), 1);
        x.release(15, 0);
        Bounds.due("colourOf(15), none left", x.colourOf(15), 0);
        MourningRibbons y = Made.line(Made.nearest(5, 1, 1, 2, 0, 0), 3);
        y.die(0);
        y.setStage(1, 0, 2, 2);
        y.setStage(1, 1, 4, 2);
        y.die(2);
        int[] due = {5, 2, 4, 4, 0};
        for (int days = 0; days < due.length; days++) {
            Bounds.due("colourIn(1, " + days + ") of two that overlap", y.colourIn(1, days), due[days]);
        }
    }

    // ---- refused calls

    private static void refusedCallsChangeNothing() {
        Bounds.sentence(TERMS, "A method that throws an exception changes nothing.");
        List<Bounds.Call> refused = refusedInFamily();
        for (int i = 0; i < refused.size(); i++) {
            boolean throwing = Bounds.answer(Made.family(), refused.get(i)).startsWith("throws.");
            Bounds.due("refused call " + i + " throws", throwing, true);
        }
        Bounds.changesNothing(Made::family, "all refused calls", x -> {
            for (Bounds.Call call : refused) {
                Bounds.answer(x, call);
            }
            return 0;
        });
        Bounds.Call fifth = x -> Bounds.answer(x, y -> y.addPerson()) + Bounds.answer(x, y -> y.addChild(0))
                + Bounds.answer(x, y -> y.die(15)) + Bounds.answer(x, y -> y.release(14, 0));
        Bounds.changesNothing(Made::full, "refused calls with 16", fifth);
    }

    private static List<Bounds.Call> refusedInFamily() {
        List<Bounds.Call> refused = new ArrayList<>(List.of(x -> x.addChild(1), x -> x.addChild(8),
                x -> x.marry(0, 3), x -> x.marry(3, 0), x -> x.marry(2, 0), x -> x.marry(0, 5), x -> x.marry(2, 5),
                x -> x.marry(4, 4), x -> x.marry(4, 8), x -> x.marry(-1, 4)));
        refused.addAll(List.of(x -> x.setStage(0, 0, 1, 1), x -> x.setStage(5, 0, 1, 1), x -> x.setStage(1, -1, 1, 1),
                x -> x.setStage(1, 3, 1, 1), x -> x.setStage(1, 0, -1, 1), x -> x.setStage(1, 0, 6, 1),
                x -> x.setStage(1, 0, 1, -1), x -> x.setStage(1, 0, 1, 61)));
        refused.addAll(List.of(x -> x.die(1), x -> x.die(8), x -> x.die(-1), x -> x.release(0, 2),
                x -> x.release(7, 1), x -> x.release(3, 1), x -> x.release(8, 1), x -> x.release(0, 8),
                x -> x.pass(0), x -> x.pass(201)));
        refused.addAll(List.of(x -> x.wouldMourn(1), x -> x.wouldMourn(8), x -> x.wouldWear(0, 0),
                x -> x.wouldWear(0, 1), x -> x.wouldWear(1, 0), x -> x.wouldWear(8, 0), x -> x.wearing(6),
                x -> x.daysIn(0, 0), x -> x.colourIn(0, 201), x -> x.kinOf(0, 5)));
        return refused;
    }

    private static void firstNamedIsThrown() {
        Bounds.sentence(TERMS, "If several exceptions apply, the one that is named first is thrown.");
        // In the family 1 and 3 are dead, 2 and 5 are a couple, 8 is nobody.
        Bounds.refuses(Made::full, "addChild(16) with 16", Bounds.INDEX, x -> x.addChild(16));
        Bounds.refuses(Made::full, "addChild(-1) with 16", Bounds.INDEX, x -> x.addChild(-1));
        Bounds.refuses(Made::family, "marry(8, 8)", Bounds.INDEX, x -> x.marry(8, 8));
        Bounds.refuses(Made::family, "marry(1, 8)", Bounds.INDEX, x -> x.marry(1, 8));
        Bounds.refuses(Made::family, "marry(8, 1)", Bounds.INDEX, x -> x.marry(8, 1));
        Bounds.refuses(Made::family, "marry(2, 8)", Bounds.INDEX, x -> x.marry(2, 8));
        Bounds.refuses(Made::family, "marry(-1, 2)", Bounds.INDEX, x -> x.marry(-1, 2));
        Bounds.refuses(Made::family, "marry(1, 1)", Bounds.ARGUMENT, x -> x.marry(1, 1));
        Bounds.refuses(Made::family, "marry(2, 2)", Bounds.ARGUMENT, x -> x.marry(2, 2));
        Bounds.refuses(Made::family, "setStage(0, 0, 6, 0)", Bounds.INDEX, x -> x.setStage(0, 0, 6, 0));
        Bounds.refuses(Made::family, "setStage(5, 0, 0, 61)", Bounds.INDEX, x -> x.setStage(5, 0, 0, 61));
        Bounds.refuses(Made::family, "setStage(1, 3, -1, 0)", Bounds.INDEX, x -> x.setStage(1, 3, -1, 0));
        Bounds.refuses(Made::family, "setStage(1, -1, 0, -1)", Bounds.INDEX, x -> x.setStage(1, -1, 0, -1));
        Bounds.refuses(Made::family, "setStage(0, 3, 6, 61)", Bounds.INDEX, x -> x.setStage(0, 3, 6, 61));
        Bounds.refuses(Made::family, "release(8, 8)", Bounds.INDEX, x -> x.release(8, 8));
        Bounds.refuses(Made::family, "release(1, 8)", Bounds.INDEX, x -> x.release(1, 8));
        Bounds.refuses(Made::family, "colourIn(8, -1)", Bounds.INDEX, x -> x.colourIn(8, -1));
        Bounds.refuses(Made::family, "colourIn(-1, 201)", Bounds.INDEX, x -> x.colourIn(-1, 201));
        Bounds.refuses(Made::family, "wouldWear(8, 8)", Bounds.INDEX, x -> x.wouldWear(8, 8));
        Bounds.refuses(Made::family, "wouldWear(1, 8)", Bounds.INDEX, x -> x.wouldWear(1, 8));
        Bounds.refuses(Made::family, "wouldWear(8, 1)", Bounds.INDEX, x -> x.wouldWear(8, 1));
        Bounds.refuses(Made::family, "wouldWear(1, 1)", Bounds.ARGUMENT, x -> x.wouldWear(1, 1));
    }
}
