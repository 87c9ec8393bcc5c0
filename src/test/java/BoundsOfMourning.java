import java.math.BigInteger;

/** The boundary cases that promises 18 to 34 name: mourning, and what would be. */
final class BoundsOfMourning {
    private static final String NO_PERSON = "Throws `IndexOutOfBoundsException` if there is no such person";

    private BoundsOfMourning() {
    }

    static void run() {
        p18Day();
        p19ColourOf();
        p20ColourIn();
        p21MourningsOf();
        p22DaysLeftFor();
        p23DaysLeft();
        p24DaysUntilLighter();
        p25DaysIn();
        p26Wearing();
        p27Strictest();
        p28LongestMourner();
        p29DaysWorn();
        p30WouldMourn();
        p31WouldWear();
        p31WouldWearRefuses();
        p32HeaviestLossOfNone();
        p32HeaviestLoss();
        p33MeanDaysLeft();
        p34Digest();
    }

    /** 0 is dead, the children 1 to 15 mourn by these stages. */
    private static MourningRibbons orphans(int colour0, int days0, int colour1, int days1, int colour2, int days2) {
        MourningRibbons x = Made.star(Made.nearest(colour0, days0, colour1, days1, colour2, days2), 16);
        x.die(0);
        return x;
    }

    /** 0 is alone alive and mourns its spouse 1. */
    private static MourningRibbons widow(int colour, int days) {
        MourningRibbons x = Made.strangers(Made.nearest(colour, days, 0, 0, 0, 0), 2);
        x.marry(0, 1);
        x.die(1);
        return x;
    }

    /** 1 mourns its parent 0 and, from some days later on, its child 2. */
    private static MourningRibbons bereaved(int[] parentStages, int daysLater, int[] childStages) {
        MourningRibbons x = new MourningRibbons();
        setStages(x, parentStages);
        Made.line(x, 3);
        x.die(0);
        if (daysLater > 0) {
            x.pass(daysLater);
        }
        setStages(x, childStages);
        x.die(2);
        return x;
    }

    /** Colour and days of the stages of degree 1, in turn. */
    private static void setStages(MourningRibbons x, int... stages) {
        for (int stage = 0; stage < 3; stage++) {
            x.setStage(1, stage, stages[2 * stage], stages[2 * stage + 1]);
        }
    }

    private static int[] stages(int... stages) {
        return stages;
    }

    private static MourningRibbons behind(MourningRibbons x, int days) {
        if (days > 0) {
            x.pass(days);
        }
        return x;
    }

    private static void kill(MourningRibbons x, int first, int last) {
        for (int person = first; person <= last; person++) {
            x.die(person);
        }
    }

    // ---- mourning

    private static void p18Day() {
        Bounds.promise(18, "Returns the day.");
        MourningRibbons x = new MourningRibbons();
        Bounds.due("day() at first", x.day(), 0);
        x.pass(1);
        Bounds.due("day() behind one", x.day(), 1);
        x.pass(200);
        Bounds.due("day() behind 200 more", x.day(), 201);
        Bounds.answer(x, y -> y.pass(201));
        Bounds.due("day() behind a refused call", x.day(), 201);
    }

    private static void p19ColourOf() {
        Bounds.promise(19, "Returns the colour that this one wears today.");
        Bounds.due("without a mourning", Made.one().colourOf(0), 0);
        Bounds.due("in a stage of no colour", orphans(0, 60, 5, 60, 0, 0).colourOf(1), 0);
        Bounds.due("of the strictest", orphans(5, 1, 0, 0, 0, 0).colourOf(15), 5);
        Bounds.due("of a dead one", orphans(5, 1, 0, 0, 0, 0).colourOf(0), 0);
        int[] days = {0, 1, 2, 60, 61, 62};
        int[] due = {1, 2, 2, 2, 4, 0};
        for (int i = 0; i < days.length; i++) {
            Bounds.due("behind " + days[i] + " days", behind(orphans(1, 1, 2, 60, 4, 1), days[i]).colourOf(15), due[i]);
        }
        Bounds.promise(19, NO_PERSON);
        Bounds.needsPerson("colourOf", (x, person) -> x.colourOf(person));
    }

    private static void p20ColourIn() {
        Bounds.promise(20, "Returns the colour that this one wears so many days from now, if nobody dies by then.");
        MourningRibbons x = orphans(1, 60, 2, 60, 4, 60);
        int[] days = {0, 59, 60, 119, 120, 179, 180, 200};
        int[] due = {1, 1, 2, 2, 4, 4, 0, 0};
        for (int i = 0; i < days.length; i++) {
            Bounds.due("colourIn(15, " + days[i] + ")", x.colourIn(15, days[i]), due[i]);
            Bounds.due("colourIn(0, " + days[i] + "), dead", x.colourIn(0, days[i]), 0);
        }
        x.pass(179);
        Bounds.due("colourIn(1, 0) on the last day", x.colourIn(1, 0), 4);
        Bounds.due("colourIn(1, 1) on the last day", x.colourIn(1, 1), 0);
        Bounds.promise(20, NO_PERSON);
        Bounds.needsPerson("colourIn(.., 0)", (y, person) -> y.colourIn(person, 0));
        Bounds.needsPerson("colourIn(.., 200)", (y, person) -> y.colourIn(person, 200));
        Bounds.promise(20, "Throws `IllegalArgumentException` if days is not 0 to 200");
        for (int wrong : Bounds.outside(0, 200)) {
            Bounds.refuses(Made::family, "colourIn(0, " + wrong + ")", Bounds.ARGUMENT, y -> y.colourIn(0, wrong));
            Bounds.refuses(Made::full, "colourIn(15, " + wrong + ")", Bounds.ARGUMENT, y -> y.colourIn(15, wrong));
        }
    }

    private static void p21MourningsOf() {
        Bounds.promise(21, "Returns how many people this one mourns today.");
        Bounds.due("of the only one", Made.one().mourningsOf(0), 0);
        MourningRibbons x = Made.star(Made.nearest(0, 0, 0, 0, 0, 1), 16);
        x.setStage(2, 0, 0, 2);
        kill(x, 0, 14);
        Bounds.due("of the last one", x.mourningsOf(15), 15);
        Bounds.due("of a dead one", x.mourningsOf(14), 0);
        x.release(15, 14);
        Bounds.due("of the last one, released once", x.mourningsOf(15), 14);
        x.pass(1);
        Bounds.due("of the last one, the parent's over", x.mourningsOf(15), 13);
        x.pass(1);
        Bounds.due("of the last one, all over", x.mourningsOf(15), 0);
        Bounds.promise(21, NO_PERSON);
        Bounds.needsPerson("mourningsOf", (y, person) -> y.mourningsOf(person));
    }

    private static void p22DaysLeftFor() {
        Bounds.promise(22, "Returns how many days, that of today counted, the first one still mourns the second one; "
                + "0 if not.");
        int[] gone = {0, 1, 59, 60, 178, 179, 180, 181, 200};
        int[] due = {180, 179, 121, 120, 2, 1, 0, 0, 0};
        for (int i = 0; i < gone.length; i++) {
            MourningRibbons x = behind(orphans(5, 60, 0, 60, 1, 60), gone[i]);
            Bounds.due("daysLeftFor(15, 0) behind " + gone[i] + " days", x.daysLeftFor(15, 0), due[i]);
        }
        MourningRibbons x = orphans(5, 60, 0, 60, 1, 60);
        Bounds.due("the other way", x.daysLeftFor(0, 15), 0);
        Bounds.due("for a living one", x.daysLeftFor(15, 14), 0);
        Bounds.due("for oneself", x.daysLeftFor(15, 15), 0);
        Bounds.due("of a dead one for itself", x.daysLeftFor(0, 0), 0);
        x.release(15, 0);
        Bounds.due("as one was released", x.daysLeftFor(15, 0), 0);
        Bounds.due("as another one was released", x.daysLeftFor(14, 0), 180);
        x.die(14);
        Bounds.due("as the mourner died", x.daysLeftFor(14, 0), 0);
        Bounds.promise(22, NO_PERSON);
        Bounds.needsPerson("daysLeftFor(.., 0)", (y, person) -> y.daysLeftFor(person, 0));
        Bounds.needsPerson("daysLeftFor(0, ..)", (y, person) -> y.daysLeftFor(0, person));
        Bounds.needsPerson("daysLeftFor twice", (y, person) -> y.daysLeftFor(person, person));
    }

    private static void p23DaysLeft() {
        Bounds.promise(23, "Returns how many days, that of today counted, until the last mourning of this one is over; "
                + "0 without one.");
        Bounds.due("without one", Made.one().daysLeft(0), 0);
        Bounds.due("of one with a day", orphans(0, 1, 0, 0, 0, 0).daysLeft(15), 1);
        Bounds.due("of a dead one", orphans(5, 1, 0, 0, 0, 0).daysLeft(0), 0);
        int[] gone = {0, 179, 180, 200};
        int[] due = {180, 1, 0, 0};
        for (int i = 0; i < gone.length; i++) {
            MourningRibbons x = behind(orphans(5, 60, 0, 60, 1, 60), gone[i]);
            Bounds.due("behind " + gone[i] + " days", x.daysLeft(15), due[i]);
        }
        int[] longer = stages(1, 10, 0, 0, 0, 10);
        int[] shorter = stages(5, 10, 0, 0, 0, 0);
        Bounds.due("the older is the last", bereaved(longer, 9, shorter).daysLeft(1), 11);
        Bounds.due("both end together", bereaved(longer, 10, shorter).daysLeft(1), 10);
        Bounds.due("the newer is the last", bereaved(longer, 11, shorter).daysLeft(1), 10);
        MourningRibbons y = bereaved(longer, 9, shorter);
        y.release(1, 0);
        Bounds.due("the last was released", y.daysLeft(1), 10);
        Bounds.promise(23, NO_PERSON);
        Bounds.needsPerson("daysLeft", (z, person) -> z.daysLeft(person));
    }

    private static void p24DaysUntilLighter() {
        Bounds.promise(24, "Returns behind how many days this one wears a colour less strict than today for the first "
                + "time, if nobody dies by then; -1 if this one wears none today.");
        Bounds.due("without a mourning", Made.one().daysUntilLighter(0), -1);
        Bounds.due("in a stage of no colour", orphans(0, 1, 5, 1, 0, 0).daysUntilLighter(15), -1);
        Bounds.due("of a dead one", orphans(5, 1, 0, 0, 0, 0).daysUntilLighter(0), -1);
        Bounds.due("of one day", orphans(1, 1, 0, 0, 0, 0).daysUntilLighter(15), 1);
        Bounds.due("of one day, then none of days", orphans(5, 1, 0, 60, 0, 0).daysUntilLighter(15), 1);
        Bounds.due("of a day, then lighter by one", orphans(5, 1, 4, 60, 0, 0).daysUntilLighter(15), 1);
        Bounds.due("the same in all stages", orphans(3, 60, 3, 60, 3, 60).daysUntilLighter(15), 180);
        Bounds.due("stricter from stage to stage", orphans(1, 60, 2, 60, 3, 60).daysUntilLighter(15), 180);
        Bounds.due("stricter, then lighter", orphans(2, 60, 5, 60, 1, 60).daysUntilLighter(15), 120);
        Bounds.due("lighter for the first time", orphans(2, 60, 1, 1, 5, 60).daysUntilLighter(15), 60);
        Bounds.due("the last day", behind(orphans(3, 60, 3, 60, 3, 60), 179).daysUntilLighter(15), 1);
        Bounds.due("the day behind it", behind(orphans(3, 60, 3, 60, 3, 60), 180).daysUntilLighter(15), -1);
        int[] light = stages(2, 20, 0, 0, 0, 0);
        int[] strict = stages(4, 10, 0, 0, 0, 0);
        Bounds.due("the strict one over, the light one not", bereaved(light, 5, strict).daysUntilLighter(1), 10);
        Bounds.due("both over together", bereaved(light, 10, strict).daysUntilLighter(1), 10);
        Bounds.due("the same colour in both", bereaved(light, 19, light).daysUntilLighter(1), 20);
        Bounds.due("the gap of the one is the colour of the other",
                bereaved(stages(3, 5, 0, 5, 3, 5), 5, stages(3, 5, 0, 0, 0, 0)).daysUntilLighter(1), 10);
        Bounds.promise(24, NO_PERSON);
        Bounds.needsPerson("daysUntilLighter", (x, person) -> x.daysUntilLighter(person));
    }

    private static void p25DaysIn() {
        Bounds.promise(25, "Returns on how many days from today on this one wears just this one of the colours 1 to 5, "
                + "if nobody dies.");
        daysIn("without a mourning", Made.one(), 0, 0, 0, 0, 0, 0);
        daysIn("of all days in 5", orphans(5, 60, 5, 60, 5, 60), 15, 0, 0, 0, 0, 180);
        daysIn("of all days in 1", orphans(1, 60, 1, 60, 1, 60), 15, 180, 0, 0, 0, 0);
        daysIn("of 1, no colour, and 5", orphans(1, 60, 0, 60, 5, 60), 15, 60, 0, 0, 0, 60);
        daysIn("of a dead one", orphans(1, 60, 0, 60, 5, 60), 0, 0, 0, 0, 0, 0);
        daysIn("of today alone", behind(orphans(1, 60, 0, 60, 5, 60), 179), 15, 0, 0, 0, 0, 1);
        daysIn("a day later", behind(orphans(1, 60, 0, 60, 5, 60), 180), 15, 0, 0, 0, 0, 0);
        daysIn("on the last day of a stage", behind(orphans(1, 60, 0, 60, 5, 60), 59), 15, 1, 0, 0, 0, 60);
        int[] light = stages(2, 20, 0, 0, 0, 0);
        daysIn("of two that overlap", bereaved(light, 5, stages(4, 10, 0, 0, 1, 6)), 1, 1, 5, 0, 10, 0);
        daysIn("of two in one colour", bereaved(light, 5, light), 1, 0, 20, 0, 0, 0);
        Bounds.promise(25, "Throws `IndexOutOfBoundsException` if there is no such person, or colour is not 1 to 5");
        Bounds.needsPerson("daysIn(.., 1)", (x, person) -> x.daysIn(person, 1));
        Bounds.needsPerson("daysIn(.., 5)", (x, person) -> x.daysIn(person, 5));
        for (int colour : Bounds.outside(1, 5)) {
            Bounds.refuses(Made::family, "daysIn(0, " + colour + ")", Bounds.INDEX, x -> x.daysIn(0, colour));
            Bounds.refuses(Made::family, "daysIn(8, " + colour + ")", Bounds.INDEX, x -> x.daysIn(8, colour));
        }
    }

    private static void daysIn(String what, MourningRibbons x, int person, int... due) {
        for (int colour = 1; colour <= 5; colour++) {
            Bounds.due("daysIn(" + person + ", " + colour + ") " + what, x.daysIn(person, colour), due[colour - 1]);
        }
    }

    private static void p26Wearing() {
        Bounds.promise(26, "Returns how many living people wear it today.");
        wearing("of nobody", Made.empty(), 0, 0, 0, 0, 0, 0);
        wearing("without a mourning", Made.strangers(Made.coded(), 16), 16, 0, 0, 0, 0, 0);
        wearing("with one dead, in 5", orphans(5, 1, 0, 0, 0, 0), 0, 0, 0, 0, 0, 15);
        wearing("with one dead, in no colour", orphans(0, 1, 0, 0, 0, 0), 15, 0, 0, 0, 0, 0);
        wearing("of each colour", Made.full(), 11, 0, 1, 1, 1, 1);
        MourningRibbons x = orphans(5, 1, 0, 0, 0, 0);
        kill(x, 1, 15);
        wearing("with all dead", x, 0, 0, 0, 0, 0, 0);
        Bounds.promise(26, "Throws `IndexOutOfBoundsException` if colour is not 0 to 5");
        for (int colour : Bounds.outside(0, 5)) {
            Bounds.refuses(Made::family, "wearing(" + colour + ")", Bounds.INDEX, y -> y.wearing(colour));
            Bounds.refuses(Made::empty, "wearing(" + colour + ")", Bounds.INDEX, y -> y.wearing(colour));
        }
    }

    private static void wearing(String what, MourningRibbons x, int... due) {
        for (int colour = 0; colour <= 5; colour++) {
            Bounds.due("wearing(" + colour + ") " + what, x.wearing(colour), due[colour]);
        }
    }

    private static void p27Strictest() {
        Bounds.promise(27, "Returns the strictest colour that somebody wears today, 0 for none.");
        Bounds.due("of nobody", new MourningRibbons().strictest(), 0);
        Bounds.due("without a mourning", Made.one().strictest(), 0);
        Bounds.due("in a stage of no colour", orphans(0, 9, 5, 9, 0, 0).strictest(), 0);
        Bounds.due("on its last day", behind(orphans(1, 1, 5, 9, 2, 1), 9).strictest(), 5);
        Bounds.due("a day later", behind(orphans(1, 1, 5, 9, 2, 1), 10).strictest(), 2);
        Bounds.due("as all is over", behind(orphans(1, 1, 5, 9, 2, 1), 11).strictest(), 0);
        MourningRibbons x = orphans(5, 1, 0, 0, 0, 0);
        for (int person = 1; person < 15; person++) {
            x.release(person, 0);
        }
        Bounds.due("of the last person alone", x.strictest(), 5);
        x.die(15);
        Bounds.due("as that one is dead", x.strictest(), 0);
        Bounds.due("of the person 0 alone", widow(4, 1).strictest(), 4);
    }

    private static void p28LongestMourner() {
        Bounds.promise(28, "Returns the person with the most days left, of several the smallest number; "
                + "-1 if nobody mourns.");
        Bounds.due("of nobody", new MourningRibbons().longestMourner(), -1);
        Bounds.due("without a mourning", Made.one().longestMourner(), -1);
        Bounds.due("next to the last of 16", Made.full().longestMourner(), 14);
        Bounds.due("of no days", orphans(5, 0, 5, 0, 5, 0).longestMourner(), -1);
        MourningRibbons x = orphans(0, 1, 0, 0, 0, 0);
        for (int person = 1; person < 16; person++) {
            Bounds.due("of several alike, in no colour, on the last day", x.longestMourner(), person);
            x.release(person, 0);
        }
        Bounds.due("as all are released", x.longestMourner(), -1);
        Bounds.due("as all is over", behind(orphans(5, 1, 0, 0, 0, 0), 1).longestMourner(), -1);
        MourningRibbons y = orphans(5, 1, 0, 0, 0, 0);
        kill(y, 1, 15);
        Bounds.due("as all are dead", y.longestMourner(), -1);
        MourningRibbons z = Made.line(Made.nearest(5, 1, 0, 0, 0, 0), 3);
        z.setStage(2, 0, 1, 2);
        z.die(2);
        Bounds.due("of one by a day", z.longestMourner(), 0);
        MourningRibbons w = Made.line(Made.nearest(1, 2, 0, 0, 0, 0), 3);
        w.setStage(2, 0, 5, 1);
        w.die(2);
        Bounds.due("of the later number by a day", w.longestMourner(), 1);
    }

    private static void p29DaysWorn() {
        Bounds.promise(29, "Returns how many days people wore a colour in all, added, for each day that went by as it "
                + "ended.");
        Bounds.due("at first", new MourningRibbons().daysWorn(), 0);
        Bounds.due("of nobody", behind(new MourningRibbons(), 200).daysWorn(), 0);
        int[] gone = {0, 1, 59, 60, 61, 119, 120, 121, 179, 180, 181, 200};
        int[] due = {0, 1, 59, 60, 60, 60, 60, 61, 119, 120, 120, 120};
        for (int i = 0; i < gone.length; i++) {
            MourningRibbons x = behind(orphans(5, 60, 0, 60, 1, 60), gone[i]);
            Bounds.due("behind " + gone[i] + " days", x.daysWorn(), 15 * due[i]);
        }
        MourningRibbons y = orphans(5, 60, 1, 60, 1, 60);
        y.release(15, 0);
        y.die(14);
        Bounds.due("on the day of a release and a death", y.daysWorn(), 0);
        y.pass(1);
        Bounds.due("as this day ended", y.daysWorn(), 13);
        y.pass(200);
        Bounds.due("behind all of it", y.daysWorn(), 13 * 180);
        y.pass(200);
        Bounds.due("later", y.daysWorn(), 13 * 180);
        MourningRibbons z = bereaved(stages(1, 10, 0, 0, 0, 0), 9, stages(1, 10, 0, 0, 0, 0));
        z.pass(200);
        Bounds.due("a day in two mournings counts once", z.daysWorn(), 19);
        MourningRibbons w = orphans(1, 60, 0, 0, 0, 0);
        for (int day = 0; day < 61; day++) {
            w.pass(1);
        }
        Bounds.due("day by day", w.daysWorn(), 15 * 60);
        Bounds.due("of the person 0 alone", behind(widow(1, 60), 59).daysWorn(), 59);
    }

    // ---- what would be

    private static void p30WouldMourn() {
        Bounds.promise(30, "Returns how many people would mourn this one, if this one died today (nothing is changed).");
        Bounds.due("of the only one", Made.one().wouldMourn(0), 0);
        Bounds.due("of a parent of 15", Made.star(Made.nearest(0, 0, 0, 0, 0, 1), 16).wouldMourn(0), 15);
        Bounds.due("of the last of its children", Made.star(Made.nearest(0, 0, 0, 0, 0, 1), 16).wouldMourn(15), 1);
        Bounds.due("with a code of no days", Made.star(Made.nearest(5, 0, 5, 0, 5, 0), 16).wouldMourn(0), 0);
        Bounds.due("of a stranger", Made.strangers(Made.coded(), 16).wouldMourn(15), 0);
        Bounds.due("next to a dead one", Made.full().wouldMourn(14), 4);
        Bounds.due("with kin of each degree", Made.full().wouldMourn(7), 8);
        for (int person = 0; person < 15; person++) {
            int of = person;
            Bounds.due("of " + of + " as by die", Made.full().wouldMourn(of), Made.full().die(of));
            Bounds.changesNothing(Made::full, "wouldMourn(" + of + ")", x -> x.wouldMourn(of));
        }
        Bounds.promise(30, NO_PERSON);
        Bounds.needsPerson("wouldMourn", (x, person) -> x.wouldMourn(person));
        Bounds.promise(30, "Throws `IllegalStateException` if this person is dead");
        Bounds.refuses(Made::family, "wouldMourn(1)", Bounds.STATE, x -> x.wouldMourn(1));
        Bounds.refuses(Made::full, "wouldMourn(15)", Bounds.STATE, x -> x.wouldMourn(15));
    }

    private static void p31WouldWear() {
        Bounds.promise(31, "Returns the colour that the first one would wear today, if the second one died today "
                + "(nothing is changed).");
        int[] due = {0, 0, 0, 4, 2, 3, 5, 0, 5, 3, 2, 4, 2, 3, 5};
        for (int person = 0; person < 15; person++) {
            if (person != 7) {
                Bounds.due("wouldWear(" + person + ", 7)", Made.full().wouldWear(person, 7), due[person]);
            }
        }
        Bounds.due("a lighter one is not worn", Made.full().wouldWear(14, 12), 5);
        Bounds.due("with a code of no days", Made.star(Made.nearest(5, 0, 5, 0, 5, 0), 3).wouldWear(1, 0), 0);
        Bounds.due("in a stage of no colour", Made.star(Made.nearest(0, 1, 5, 9, 5, 9), 3).wouldWear(1, 0), 0);
        Bounds.due("in the last stage", Made.star(Made.nearest(1, 0, 2, 0, 5, 1), 3).wouldWear(1, 0), 5);
        int[] byDay = {2, 2, 4, 4, 3, 3, 1};
        for (int day = 0; day < byDay.length; day++) {
            // The sibling 14 would be mourned in the colour 1, which shows as the parent's mourning is over.
            MourningRibbons x = orphans(2, 2, 4, 2, 3, 2);
            x.setStage(2, 0, 1, 1);
            Bounds.due("behind " + day + " days of now", behind(x, day).wouldWear(15, 14), byDay[day]);
        }
        Bounds.changesNothing(Made::full, "wouldWear(8, 7)", x -> x.wouldWear(8, 7));
        Bounds.changesNothing(Made::family, "wouldWear(2, 0)", x -> x.wouldWear(2, 0));
    }

    private static void p31WouldWearRefuses() {
        Bounds.promise(31, NO_PERSON);
        Bounds.needsPerson("wouldWear(.., 0)", (x, person) -> x.wouldWear(person, 0));
        Bounds.needsPerson("wouldWear(0, ..)", (x, person) -> x.wouldWear(0, person));
        Bounds.needsPerson("wouldWear twice", (x, person) -> x.wouldWear(person, person));
        Bounds.promise(31, "Throws `IllegalArgumentException` if both are the same");
        Bounds.refuses(Made::one, "wouldWear(0, 0)", Bounds.ARGUMENT, x -> x.wouldWear(0, 0));
        Bounds.refuses(Made::full, "wouldWear(14, 14)", Bounds.ARGUMENT, x -> x.wouldWear(14, 14));
        Bounds.refuses(Made::full, "wouldWear(15, 15), dead", Bounds.ARGUMENT, x -> x.wouldWear(15, 15));
        Bounds.promise(31, "Throws `IllegalStateException` if one of them is dead");
        Bounds.refuses(Made::full, "wouldWear(15, 0)", Bounds.STATE, x -> x.wouldWear(15, 0));
        Bounds.refuses(Made::full, "wouldWear(0, 15)", Bounds.STATE, x -> x.wouldWear(0, 15));
        Bounds.refuses(Made::family, "wouldWear(1, 3), both dead", Bounds.STATE, x -> x.wouldWear(1, 3));
    }

    private static void heaviest() {
        Bounds.promise(32, "Returns the living person with whose death today all others together would wear a colour "
                + "on the most days from today on (each day of each of them counted once, with mournings of now), "
                + "of several the smallest number; -1 if nobody is alive (nothing is changed).");
    }

    private static void p32HeaviestLossOfNone() {
        heaviest();
        Bounds.due("of nobody", new MourningRibbons().heaviestLoss(), -1);
        Bounds.due("of the only one", Made.one().heaviestLoss(), 0);
        Bounds.due("of 16 strangers", Made.strangers(Made.coded(), 16).heaviestLoss(), 0);
        Bounds.due("with a code of no days", Made.star(Made.nearest(5, 0, 5, 0, 5, 0), 16).heaviestLoss(), 0);
        Bounds.due("in no colour", Made.line(Made.nearest(0, 60, 0, 60, 0, 60), 3).heaviestLoss(), 0);
        MourningRibbons x = Made.strangers(Made.coded(), 16);
        for (int person = 0; person < 16; person++) {
            Bounds.due("of strangers, the first one alive", x.heaviestLoss(), person);
            x.die(person);
        }
        Bounds.due("as all are dead", x.heaviestLoss(), -1);
        Bounds.changesNothing(Made::family, "heaviestLoss()", y -> y.heaviestLoss());
        Bounds.changesNothing(Made::full, "heaviestLoss()", y -> y.heaviestLoss());
    }

    private static void p32HeaviestLoss() {
        heaviest();
        Bounds.due("of a parent of 15", Made.star(Made.nearest(1, 60, 1, 60, 1, 60), 16).heaviestLoss(), 0);
        Bounds.due("in a line, of several", Made.line(Made.nearest(1, 1, 0, 0, 0, 0), 16).heaviestLoss(), 1);
        MourningRibbons x = Made.strangers(Made.nearest(0, 0, 0, 0, 1, 1), 15);
        x.addChild(0);
        x.marry(15, 1);
        Bounds.due("of the last person", x.heaviestLoss(), 15);
        Bounds.due("1 would leave 5 days, and 3 only 4 + 0", twoFamilies(4, 0, 0, 0).heaviestLoss(), 1);
        Bounds.due("1 would leave 5 days, 3 4 + 1, 5 not 4 + 5", twoFamilies(4, 0, 0, 1).heaviestLoss(), 1);
        Bounds.due("1 would leave 5 days, 3 4 + 2", twoFamilies(4, 0, 0, 2).heaviestLoss(), 3);
        Bounds.due("1 would leave 5 days, 3 5 + 1", twoFamilies(5, 0, 0, 1).heaviestLoss(), 3);
        Bounds.due("1 would leave 5 days, 3 9 as 5 does", twoFamilies(9, 0, 0, 0).heaviestLoss(), 3);
        Bounds.due("5 of 9 days left", behind(twoFamilies(9, 0, 0, 1), 4).heaviestLoss(), 3);
        Bounds.due("4 of 9 days left", behind(twoFamilies(9, 0, 0, 1), 5).heaviestLoss(), 1);
        Bounds.due("5 would fill the gap of 2 days, 3 leave 4 + 1", twoFamilies(2, 2, 2, 1).heaviestLoss(), 5);
        Bounds.due("5 would fill the gap of 2 days, 3 leave 4 + 2", twoFamilies(2, 2, 2, 2).heaviestLoss(), 3);
        MourningRibbons y = twoFamilies(9, 0, 0, 1);
        Bounds.due("3 leave 9 + 1", y.heaviestLoss(), 3);
        y.release(1, 0);
        Bounds.due("as 1 was released, asked again", y.heaviestLoss(), 1);
    }

    /**
     * 1 mourns its parent 0 in a colour, then in none, then in it again, and has the child 5; 3 and 4 are
     * children of 2, who is dead and mourned by nobody. A death today is mourned for 5 days by the degree
     * 1, and for the days of siblings by the degree 2.
     */
    private static MourningRibbons twoFamilies(int days0, int gap, int days2, int siblingsDays) {
        MourningRibbons x = Made.line(new MourningRibbons(), 2);
        x.addPerson();
        x.addChild(2);
        x.addChild(2);
        x.addChild(1);
        x.die(2);
        setStages(x, 1, days0, 0, gap, 1, days2);
        x.die(0);
        setStages(x, 5, 5, 0, 0, 0, 0);
        x.setStage(2, 0, 1, siblingsDays);
        return x;
    }

    private static void p33MeanDaysLeft() {
        Bounds.promise(33, "Returns the mean of days left of living people; 0 without any.");
        Bounds.due("of nobody", new MourningRibbons().meanDaysLeft(), 0.0);
        Bounds.due("of the only one", Made.one().meanDaysLeft(), 0.0);
        Bounds.due("of the most days", orphans(0, 60, 0, 60, 0, 60).meanDaysLeft(), 180.0);
        Bounds.due("on the last day", behind(orphans(0, 60, 0, 60, 0, 60), 179).meanDaysLeft(), 1.0);
        Bounds.due("behind it", behind(orphans(0, 60, 0, 60, 0, 60), 180).meanDaysLeft(), 0.0);
        Bounds.due("of parts of a day", Made.full().meanDaysLeft(), (58 + 18 + 3 + 1) / 15.0);
        MourningRibbons x = orphans(5, 1, 0, 0, 0, 0);
        kill(x, 1, 14);
        Bounds.due("of the last one", x.meanDaysLeft(), 1.0);
        x.die(15);
        Bounds.due("as all are dead", x.meanDaysLeft(), 0.0);
        MourningRibbons y = Made.line(Made.nearest(5, 1, 0, 0, 0, 0), 4);
        y.die(0);
        Bounds.due("of a third of a day", y.meanDaysLeft(), 1 / 3.0);
        Bounds.due("of the person 0 alone", widow(0, 60).meanDaysLeft(), 60.0);
    }

    private static void p34Digest() {
        Bounds.promise(34, "Computes a checksum. A number d starts with 1931; for each of the following numbers x, "
                + "d becomes d * 31 + x, which wraps around as a 64-bit integer (whether something is so counts 1 or "
                + "0): people(), living(), day(), strictest(), longestMourner(), daysWorn(); then for each degree and "
                + "each of its stages stageColour(), stageDays(); then for each person isAlive(), parentOf(), "
                + "marriedTo(), colourOf(), mourningsOf(), daysLeft(), daysUntilLighter(), then kinOf() for each "
                + "degree.");
        wrapsAround("of a new object", new MourningRibbons());
        wrapsAround("of one", Made.one());
        wrapsAround("of a family", Made.family());
        wrapsAround("of 16", Made.full());
        wrapsAround("of the longest mourning", orphans(5, 60, 4, 60, 3, 60));
        MourningRibbons x = orphans(5, 60, 4, 60, 3, 60);
        kill(x, 1, 15);
        wrapsAround("as all are dead", behind(x, 200));
        Bounds.promise(34, "Returns d.");
        MourningRibbons y = Made.family();
        long first = y.digest();
        Bounds.due("digest() asked again", y.digest(), first);
        Bounds.due("digest() of another object with the same calls", Made.family().digest(), first);
        Bounds.changesNothing(Made::family, "digest()", z -> z.digest());
    }

    /** Reckons without bound, from the answers of x, and only then takes the last 64 bits. */
    private static void wrapsAround(String what, MourningRibbons x) {
        BigInteger d = behindAll(BigInteger.valueOf(1931), x.people(), x.living(), x.day(), x.strictest(),
                x.longestMourner(), x.daysWorn());
        for (int degree = 1; degree <= 4; degree++) {
            for (int stage = 0; stage <= 2; stage++) {
                d = behindAll(d, x.stageColour(degree, stage), x.stageDays(degree, stage));
            }
        }
        for (int person = 0; person < x.people(); person++) {
            d = behindAll(d, x.isAlive(person) ? 1 : 0, x.parentOf(person), x.marriedTo(person), x.colourOf(person),
                    x.mourningsOf(person), x.daysLeft(person), x.daysUntilLighter(person), x.kinOf(person, 1),
                    x.kinOf(person, 2), x.kinOf(person, 3), x.kinOf(person, 4));
        }
        Bounds.due("the number is beyond 64 bits " + what, d.bitLength() > 64, true);
        Bounds.due("digest() " + what, x.digest(), d.longValue());
    }

    private static BigInteger behindAll(BigInteger before, int... numbers) {
        BigInteger d = before;
        for (int number : numbers) {
            d = d.multiply(BigInteger.valueOf(31)).add(BigInteger.valueOf(number));
        }
        return d;
    }
}
