/** For each promise its ordinary inputs, the edges that the document names, and wrong inputs. */
public final class PromisesTest {
    private static final Class<IndexOutOfBoundsException> INDEX = IndexOutOfBoundsException.class;
    private static final Class<IllegalArgumentException> ARGUMENT = IllegalArgumentException.class;
    private static final Class<IllegalStateException> STATE = IllegalStateException.class;

    /** Numbers that are no person where fewer than 16 are. */
    private static final int[] NO_PERSON = {-1, 16, Integer.MIN_VALUE, Integer.MAX_VALUE};

    private interface OfPerson {
        double answer(int person);
    }

    private interface OfPlace {
        double answer(int degree, int stage);
    }

    private PromisesTest() {
    }

    public static void main(String[] args) {
        p01NewObject();
        p02AddPerson();
        p03AddChild();
        p04Marry();
        p04MarryAnew();
        p05SetStage();
        p05SetStageKeepsMournings();
        p06Die();
        p06DeadMournNoMore();
        p07Release();
        p08Pass();
        p09To10PeopleLiving();
        p11To13OfPerson();
        p14DegreeOf();
        p15KinOf();
        p16To17Stages();
        p18Day();
        p19ColourOf();
        p20ColourIn();
        p21MourningsOf();
        p22DaysLeftFor();
        p23DaysLeft();
        p24DaysUntilLighter();
        p25DaysIn();
        p26Wearing();
        p27Strictest();
        p28LongestMourner();
        p29DaysWorn();
        p30WouldMourn();
        p31WouldWear();
        p32HeaviestLoss();
        p33MeanDaysLeft();
        p34Digest();
        fullHouse();
        Check.end("PromisesTest");
    }

    // ---- wrong numbers

    private static void refusesNoPerson(MourningRibbons x, String what, OfPerson call) {
        for (int person : NO_PERSON) {
            Check.refuses(x, what + " of " + person, INDEX, () -> call.answer(person));
        }
        int next = x.people();
        Check.refuses(x, what + " of the next one", INDEX, () -> call.answer(next));
    }

    private static void refusesNoPlace(MourningRibbons x, String what, OfPlace call) {
        int[][] wrong = {{0, 0}, {5, 0}, {-1, 1}, {1, -1}, {1, 3}, {4, 3}, {Integer.MIN_VALUE, 0},
            {Integer.MAX_VALUE, 2}, {2, Integer.MIN_VALUE}, {2, Integer.MAX_VALUE}};
        for (int[] place : wrong) {
            Check.refuses(x, what + " of " + place[0] + ", " + place[1], INDEX,
                    () -> call.answer(place[0], place[1]));
        }
    }

    // ---- families and the code

    private static void p01NewObject() {
        MourningRibbons x = new MourningRibbons();
        Check.due("people() of a new object", x.people(), 0);
        Check.due("living() of a new object", x.living(), 0);
        Check.due("day() of a new object", x.day(), 0);
        Check.due("daysWorn() of a new object", x.daysWorn(), 0);
        for (int degree = 1; degree <= 4; degree++) {
            for (int stage = 0; stage < 3; stage++) {
                Check.due("stageColour of a new object", x.stageColour(degree, stage), 0);
                Check.due("stageDays of a new object", x.stageDays(degree, stage), 0);
            }
        }
        MourningRibbons y = Made.coded();
        y.addPerson();
        Check.due("people() beside another object", x.people(), 0);
        Check.due("stageDays() beside another object", x.stageDays(1, 0), 0);
    }

    private static void p02AddPerson() {
        MourningRibbons x = new MourningRibbons();
        for (int person = 0; person < 16; person++) {
            Check.due("addPerson()", x.addPerson(), person);
            Check.due("parentOf a new person", x.parentOf(person), -1);
            Check.due("marriedTo a new person", x.marriedTo(person), -1);
            Check.due("isAlive of a new person", x.isAlive(person) ? 1 : 0, 1);
        }
        Check.refuses(x, "the 17th addPerson()", STATE, () -> x.addPerson());
        x.die(3);
        Check.refuses(x, "addPerson() with 16, one dead", STATE, () -> x.addPerson());
    }

    private static void p03AddChild() {
        MourningRibbons x = new MourningRibbons();
        Check.refuses(x, "addChild(0) without people", INDEX, () -> x.addChild(0));
        x.addPerson();
        x.addPerson();
        Check.due("addChild(1)", x.addChild(1), 2);
        Check.due("parentOf(2)", x.parentOf(2), 1);
        Check.due("marriedTo(2)", x.marriedTo(2), -1);
        refusesNoPerson(x, "addChild", x::addChild);
        x.die(0);
        Check.refuses(x, "addChild of a dead one", STATE, () -> x.addChild(0));
        while (x.people() < 16) {
            x.addChild(2);
        }
        Check.refuses(x, "addChild with 16", STATE, () -> x.addChild(2));
        Check.refuses(x, "addChild with 16 of nobody", INDEX, () -> x.addChild(16));
    }

    private static void p04Marry() {
        MourningRibbons x = Made.coded();
        Made.line(x, 6);
        x.addPerson();
        Check.due("marry strangers", x.marry(6, 5), 0);
        Check.due("marriedTo(5)", x.marriedTo(5), 6);
        Check.due("marriedTo(6)", x.marriedTo(6), 5);
        Check.due("marry four steps apart", x.marry(0, 4), 4);
        Check.due("degreeOf(0, 4) then", x.degreeOf(0, 4), 1);
        Check.due("marry parent and child", x.marry(1, 2), 1);
        refusesNoPerson(x, "marry(3, ..)", p -> x.marry(3, p));
        refusesNoPerson(x, "marry(.., 3)", p -> x.marry(p, 3));
        Check.refuses(x, "marry nobody to nobody", INDEX, () -> x.marry(20, 20));
        Check.refuses(x, "marry one to oneself", ARGUMENT, () -> x.marry(3, 3));
        Check.refuses(x, "marry a married one", STATE, () -> x.marry(3, 5));
        Check.refuses(x, "marry a married one", STATE, () -> x.marry(5, 3));
        Check.refuses(x, "marry a couple again", STATE, () -> x.marry(5, 6));
        x.die(3);
        Check.refuses(x, "marry a dead one to itself", ARGUMENT, () -> x.marry(3, 3));
        int alone = x.addPerson();
        Check.refuses(x, "marry a dead one", STATE, () -> x.marry(3, alone));
        Check.refuses(x, "marry a dead one", STATE, () -> x.marry(alone, 3));
    }

    private static void p04MarryAnew() {
        MourningRibbons x = new MourningRibbons();
        for (int person = 0; person < 6; person++) {
            x.addPerson();
        }
        x.marry(0, 1);
        x.marry(2, 3);
        x.die(1);
        x.die(2);
        Check.refuses(x, "marry one's dead spouse anew", STATE, () -> x.marry(0, 1));
        Check.due("marry two who lost theirs", x.marry(0, 3), 0);
        Check.due("marriedTo(0)", x.marriedTo(0), 3);
        Check.due("marriedTo(3)", x.marriedTo(3), 0);
        Check.due("marriedTo(1), dead", x.marriedTo(1), -1);
        Check.due("marriedTo(2), dead", x.marriedTo(2), -1);
        x.die(0);
        x.die(3);
        Check.due("marriedTo(0) as both are dead", x.marriedTo(0), 3);
        Check.due("marriedTo(3) as both are dead", x.marriedTo(3), 0);
        x.marry(4, 5);
        x.addChild(4);
        x.die(4);
        Check.due("the degree ahead of it goes over the dead spouse", x.marry(5, 6), 2);
        Check.due("the step to the former spouse is gone", x.degreeOf(5, 4), 2);
    }

    private static void p05SetStage() {
        MourningRibbons x = new MourningRibbons();
        Check.due("setStage(4, 2, 5, 60)", x.setStage(4, 2, 5, 60), 60);
        Check.due("setStage(4, 0, 0, 7)", x.setStage(4, 0, 0, 7), 67);
        Check.due("setStage(4, 1, 2, 0)", x.setStage(4, 1, 2, 0), 67);
        Check.due("setStage(4, 2, 1, 1)", x.setStage(4, 2, 1, 1), 8);
        Check.due("setStage(1, 0, 3, 2)", x.setStage(1, 0, 3, 2), 2);
        Check.due("stageColour(4, 1)", x.stageColour(4, 1), 2);
        Check.due("stageColour(4, 2)", x.stageColour(4, 2), 1);
        Check.due("stageDays(4, 0)", x.stageDays(4, 0), 7);
        refusesNoPlace(x, "setStage", (degree, stage) -> x.setStage(degree, stage, 1, 1));
        refusesNoPlace(x, "setStage of a wrong colour", (degree, stage) -> x.setStage(degree, stage, 6, 61));
        for (int colour : new int[] {-1, 6, Integer.MIN_VALUE, Integer.MAX_VALUE}) {
            Check.refuses(x, "setStage of colour " + colour, ARGUMENT, () -> x.setStage(1, 0, colour, 1));
        }
        for (int days : new int[] {-1, 61, Integer.MIN_VALUE, Integer.MAX_VALUE}) {
            Check.refuses(x, "setStage of days " + days, ARGUMENT, () -> x.setStage(1, 0, 1, days));
        }
    }

    private static void p05SetStageKeepsMournings() {
        MourningRibbons x = Made.couple(2, 3, 1, 4, 0, 0);
        x.die(0);
        x.setStage(1, 0, 5, 60);
        x.setStage(1, 1, 4, 60);
        Check.due("colourOf as the code changed", x.colourOf(1), 2);
        Check.due("daysLeft as the code changed", x.daysLeft(1), 7);
        Check.due("colourIn as the code changed", x.colourIn(1, 3), 1);
        x.setStage(1, 0, 0, 0);
        x.setStage(1, 1, 0, 0);
        Check.due("mourningsOf with a code of no days now", x.mourningsOf(1), 1);
    }

    // ---- deaths and days

    private static void p06Die() {
        MourningRibbons x = Made.coded();
        Made.line(x, 7);
        Check.due("die(6): 5, 4, 3, 2 are kin, 1 and 0 are not", x.die(6), 4);
        Check.due("isAlive(6)", x.isAlive(6) ? 1 : 0, 0);
        int[] left = {0, 0, 3, 5, 20, 60, 0};
        for (int person = 0; person < 7; person++) {
            Check.due("daysLeftFor(" + person + ", 6)", x.daysLeftFor(person, 6), left[person]);
        }
        x.setStage(2, 0, 1, 0);
        x.setStage(2, 1, 1, 0);
        Check.due("die(5): the dead 6 does not mourn, 3 has no days", x.die(5), 3);
        Check.due("mourningsOf(3), whose degree has no days", x.mourningsOf(3), 1);
        refusesNoPerson(x, "die", x::die);
        Check.refuses(x, "die of a dead one", STATE, () -> x.die(5));
        MourningRibbons y = Made.couple(0, 2, 0, 0, 0, 0);
        Check.due("die mourned in no colour, but with days", y.die(0), 2);
        y.marry(1, 3);
        Check.due("one who becomes kin later does not mourn", y.mourningsOf(3), 0);
        Check.due("degrees are those of the day of the death", y.daysLeftFor(1, 0), 2);
    }

    private static void p06DeadMournNoMore() {
        MourningRibbons x = Made.coded();
        Made.line(x, 3);
        x.die(0);
        Check.due("colourOf(1)", x.colourOf(1), 5);
        x.die(1);
        Check.due("colourOf(1), dead", x.colourOf(1), 0);
        Check.due("mourningsOf(1), dead", x.mourningsOf(1), 0);
        Check.due("daysLeft(1), dead", x.daysLeft(1), 0);
        Check.due("daysLeftFor(1, 0), dead", x.daysLeftFor(1, 0), 0);
        Check.due("daysUntilLighter(1), dead", x.daysUntilLighter(1), -1);
        Check.due("daysIn(1, 5), dead", x.daysIn(1, 5), 0);
        Check.due("wearing(5)", x.wearing(5), 1);
        Check.refuses(x, "release of a dead one", STATE, () -> x.release(1, 0));
    }

    private static void p07Release() {
        MourningRibbons x = Made.coded();
        Made.line(x, 3);
        x.die(0);
        x.pass(4);
        Check.due("release(1, 0)", x.release(1, 0), 56);
        Check.due("colourOf(1)", x.colourOf(1), 0);
        Check.due("daysLeftFor(1, 0)", x.daysLeftFor(1, 0), 0);
        Check.due("colourOf(2), not released", x.colourOf(2), 3);
        Check.refuses(x, "release twice", STATE, () -> x.release(1, 0));
        Check.refuses(x, "release from a living one", STATE, () -> x.release(2, 1));
        Check.refuses(x, "release from oneself", STATE, () -> x.release(2, 2));
        Check.refuses(x, "release the dead from the mourner", STATE, () -> x.release(0, 2));
        refusesNoPerson(x, "release(2, ..)", p -> x.release(2, p));
        refusesNoPerson(x, "release(.., 0)", p -> x.release(p, 0));
        x.pass(16);
        Check.refuses(x, "release as it is over", STATE, () -> x.release(2, 0));
        MourningRibbons y = Made.coded();
        Made.line(y, 3);
        y.die(0);
        y.pass(19);
        Check.due("release on the last day", y.release(2, 0), 1);
    }

    private static void p08Pass() {
        MourningRibbons x = Made.couple(5, 3, 0, 2, 1, 1);
        x.die(0);
        Check.due("pass(2)", x.pass(2), 2);
        Check.due("pass(1) into a stage of no colour", x.pass(1), 0);
        Check.due("pass(2) into the last stage", x.pass(2), 2);
        Check.due("pass(1) behind it", x.pass(1), 0);
        Check.due("day()", x.day(), 6);
        Check.due("pass(200)", x.pass(200), 0);
        Check.due("day()", x.day(), 206);
        for (int days : new int[] {0, 201, -1, Integer.MIN_VALUE, Integer.MAX_VALUE}) {
            Check.refuses(x, "pass(" + days + ")", ARGUMENT, () -> x.pass(days));
        }
    }

    // ---- people and the code

    private static void p09To10PeopleLiving() {
        MourningRibbons x = Made.line(new MourningRibbons(), 5);
        Check.due("people()", x.people(), 5);
        Check.due("living()", x.living(), 5);
        x.die(4);
        x.die(1);
        Check.due("people() with two dead", x.people(), 5);
        Check.due("living() with two dead", x.living(), 3);
    }

    private static void p11To13OfPerson() {
        MourningRibbons x = Made.line(new MourningRibbons(), 3);
        x.addPerson();
        x.marry(2, 3);
        x.die(2);
        Check.due("isAlive(2)", x.isAlive(2) ? 1 : 0, 0);
        Check.due("isAlive(3)", x.isAlive(3) ? 1 : 0, 1);
        Check.due("parentOf(0)", x.parentOf(0), -1);
        Check.due("parentOf(2)", x.parentOf(2), 1);
        Check.due("marriedTo(3), to a dead one", x.marriedTo(3), 2);
        Check.due("marriedTo(2), dead", x.marriedTo(2), 3);
        Check.due("marriedTo(0)", x.marriedTo(0), -1);
        refusesNoPerson(x, "isAlive", p -> x.isAlive(p) ? 1 : 0);
        refusesNoPerson(x, "parentOf", x::parentOf);
        refusesNoPerson(x, "marriedTo", x::marriedTo);
    }

    private static void p14DegreeOf() {
        MourningRibbons x = Made.line(new MourningRibbons(), 6);
        int[] degrees = {0, 1, 2, 3, 4, 0};
        for (int person = 0; person < 6; person++) {
            Check.due("degreeOf(0, " + person + ")", x.degreeOf(0, person), degrees[person]);
            Check.due("degreeOf(" + person + ", 0)", x.degreeOf(person, 0), degrees[person]);
        }
        x.die(2);
        Check.due("degreeOf over a dead one", x.degreeOf(0, 4), 4);
        Check.due("degreeOf a dead one", x.degreeOf(2, 0), 2);
        x.addChild(1);
        Check.due("degreeOf aunt and niece", x.degreeOf(6, 3), 3);
        x.marry(5, 0);
        Check.due("degreeOf spouses", x.degreeOf(0, 5), 1);
        Check.due("degreeOf by the shorter way", x.degreeOf(0, 4), 2);
        x.addPerson();
        Check.due("degreeOf a stranger", x.degreeOf(7, 0), 0);
        refusesNoPerson(x, "degreeOf(0, ..)", p -> x.degreeOf(0, p));
        refusesNoPerson(x, "degreeOf(.., 0)", p -> x.degreeOf(p, 0));
        Check.refuses(x, "degreeOf nobody to nobody", INDEX, () -> x.degreeOf(9, 9));
    }

    private static void p15KinOf() {
        MourningRibbons x = Made.line(new MourningRibbons(), 6);
        x.addChild(0);
        int[] kin = {2, 2, 1, 1};
        for (int degree = 1; degree <= 4; degree++) {
            Check.due("kinOf(1, " + degree + ")", x.kinOf(1, degree), kin[degree - 1]);
        }
        x.die(6);
        Check.due("kinOf(1, 2) with one dead", x.kinOf(1, 2), 1);
        Check.due("kinOf(6, 2) of a dead one", x.kinOf(6, 2), 1);
        refusesNoPerson(x, "kinOf(.., 1)", p -> x.kinOf(p, 1));
        for (int degree : new int[] {0, 5, -1, Integer.MIN_VALUE, Integer.MAX_VALUE}) {
            Check.refuses(x, "kinOf(1, " + degree + ")", INDEX, () -> x.kinOf(1, degree));
        }
    }

    private static void p16To17Stages() {
        MourningRibbons x = new MourningRibbons();
        for (int degree = 1; degree <= 4; degree++) {
            for (int stage = 0; stage < 3; stage++) {
                x.setStage(degree, stage, (degree + stage) % 6, degree * 10 + stage);
            }
        }
        for (int degree = 1; degree <= 4; degree++) {
            for (int stage = 0; stage < 3; stage++) {
                Check.due("stageColour", x.stageColour(degree, stage), (degree + stage) % 6);
                Check.due("stageDays", x.stageDays(degree, stage), degree * 10 + stage);
            }
        }
        refusesNoPlace(x, "stageColour", x::stageColour);
        refusesNoPlace(x, "stageDays", x::stageDays);
    }

    // ---- mourning

    private static void p18Day() {
        MourningRibbons x = new MourningRibbons();
        x.pass(1);
        x.pass(200);
        Check.due("day()", x.day(), 201);
    }

    private static void p19ColourOf() {
        MourningRibbons x = Made.coded();
        Made.line(x, 5);
        x.die(0);
        Check.due("colourOf(1)", x.colourOf(1), 5);
        Check.due("colourOf(2)", x.colourOf(2), 3);
        Check.due("colourOf(3), whose stage 0 has no days", x.colourOf(3), 2);
        Check.due("colourOf(4), whose stages 0 and 1 have no days", x.colourOf(4), 4);
        x.pass(29);
        Check.due("colourOf(1) on the last day of a stage", x.colourOf(1), 5);
        x.pass(1);
        Check.due("colourOf(1) on the first day of the next", x.colourOf(1), 3);
        x.die(4);
        Check.due("colourOf(1), the strictest though not the newest", x.colourOf(1), 3);
        Check.due("colourOf(2)", x.colourOf(2), 3);
        x.die(3);
        Check.due("colourOf(2), the strictest of two new ones", x.colourOf(2), 5);
        refusesNoPerson(x, "colourOf", x::colourOf);
    }

    private static void p20ColourIn() {
        MourningRibbons x = Made.coded();
        Made.line(x, 3);
        x.die(0);
        x.pass(5);
        int[] days = {0, 24, 25, 44, 45, 54, 55, 200};
        int[] colours = {5, 5, 3, 3, 1, 1, 0, 0};
        for (int i = 0; i < days.length; i++) {
            Check.due("colourIn(1, " + days[i] + ")", x.colourIn(1, days[i]), colours[i]);
        }
        refusesNoPerson(x, "colourIn", p -> x.colourIn(p, 0));
        refusesNoPerson(x, "colourIn of wrong days", p -> x.colourIn(p, -1));
        for (int wrong : new int[] {-1, 201, Integer.MIN_VALUE, Integer.MAX_VALUE}) {
            Check.refuses(x, "colourIn(1, " + wrong + ")", ARGUMENT, () -> x.colourIn(1, wrong));
        }
    }

    private static void p21MourningsOf() {
        MourningRibbons x = Made.coded();
        Made.line(x, 4);
        Check.due("mourningsOf(1)", x.mourningsOf(1), 0);
        x.die(0);
        x.die(3);
        Check.due("mourningsOf(1) for two", x.mourningsOf(1), 2);
        x.pass(19);
        Check.due("mourningsOf(1) on the last day of one", x.mourningsOf(1), 2);
        x.pass(1);
        Check.due("mourningsOf(1) as one is over", x.mourningsOf(1), 1);
        x.release(1, 0);
        Check.due("mourningsOf(1) as one was released", x.mourningsOf(1), 0);
        MourningRibbons y = Made.couple(0, 2, 0, 0, 0, 0);
        y.die(0);
        Check.due("mourningsOf in no colour", y.mourningsOf(1), 1);
        refusesNoPerson(x, "mourningsOf", x::mourningsOf);
    }

    private static void p22DaysLeftFor() {
        MourningRibbons x = Made.coded();
        Made.line(x, 4);
        x.die(0);
        x.pass(3);
        x.die(3);
        Check.due("daysLeftFor(1, 0)", x.daysLeftFor(1, 0), 57);
        Check.due("daysLeftFor(1, 3)", x.daysLeftFor(1, 3), 20);
        Check.due("daysLeftFor(0, 1), the other way", x.daysLeftFor(0, 1), 0);
        Check.due("daysLeftFor(1, 2), alive", x.daysLeftFor(1, 2), 0);
        Check.due("daysLeftFor(1, 1)", x.daysLeftFor(1, 1), 0);
        x.pass(19);
        Check.due("daysLeftFor(1, 3) on the last day", x.daysLeftFor(1, 3), 1);
        x.pass(1);
        Check.due("daysLeftFor(1, 3) behind it", x.daysLeftFor(1, 3), 0);
        x.pass(1);
        Check.due("daysLeftFor(1, 3) later", x.daysLeftFor(1, 3), 0);
        refusesNoPerson(x, "daysLeftFor(1, ..)", p -> x.daysLeftFor(1, p));
        refusesNoPerson(x, "daysLeftFor(.., 0)", p -> x.daysLeftFor(p, 0));
    }

    private static void p23DaysLeft() {
        MourningRibbons x = Made.coded();
        Made.line(x, 4);
        Check.due("daysLeft without a mourning", x.daysLeft(1), 0);
        x.die(3);
        x.pass(2);
        Check.due("daysLeft(1)", x.daysLeft(1), 18);
        x.die(0);
        Check.due("daysLeft(1) of two", x.daysLeft(1), 60);
        Check.due("daysLeft(2), of two the older one", x.daysLeft(2), 58);
        MourningRibbons y = Made.couple(1, 60, 2, 60, 0, 60);
        y.die(0);
        Check.due("daysLeft counts a stage of no colour", y.daysLeft(2), 180);
        refusesNoPerson(x, "daysLeft", x::daysLeft);
    }

    private static void p24DaysUntilLighter() {
        MourningRibbons x = Made.couple(2, 5, 4, 5, 1, 5);
        Check.due("daysUntilLighter without a mourning", x.daysUntilLighter(1), -1);
        x.die(0);
        Check.due("a stricter stage is not lighter", x.daysUntilLighter(1), 10);
        x.pass(5);
        Check.due("daysUntilLighter(1)", x.daysUntilLighter(1), 5);
        x.pass(9);
        Check.due("daysUntilLighter on the last day", x.daysUntilLighter(1), 1);
        x.pass(1);
        Check.due("daysUntilLighter behind it", x.daysUntilLighter(1), -1);
        MourningRibbons y = Made.couple(0, 5, 3, 5, 0, 0);
        y.die(0);
        Check.due("daysUntilLighter in a stage of no colour", y.daysUntilLighter(1), -1);
        MourningRibbons z = Made.couple(3, 60, 3, 60, 3, 60);
        z.die(0);
        Check.due("daysUntilLighter of the longest mourning", z.daysUntilLighter(1), 180);
        z.pass(100);
        z.die(2);
        Check.due("no kin, no change", z.daysUntilLighter(1), 80);
        refusesNoPerson(x, "daysUntilLighter", x::daysUntilLighter);
    }

    private static void p25DaysIn() {
        MourningRibbons x = Made.coded();
        Made.line(x, 4);
        x.die(0);
        x.pass(12);
        x.die(3);
        Check.due("daysIn(2, 5), by 3", x.daysIn(2, 5), 30);
        Check.due("daysIn(2, 3)", x.daysIn(2, 3), 20);
        Check.due("daysIn(2, 1), hidden by stricter ones", x.daysIn(2, 1), 10);
        Check.due("daysIn(1, 5), from today on", x.daysIn(1, 5), 18);
        Check.due("daysIn(1, 3)", x.daysIn(1, 3), 20);
        Check.due("daysIn(1, 2)", x.daysIn(1, 2), 0);
        refusesNoPerson(x, "daysIn", p -> x.daysIn(p, 1));
        for (int colour : new int[] {0, 6, -1, Integer.MIN_VALUE, Integer.MAX_VALUE}) {
            Check.refuses(x, "daysIn(1, " + colour + ")", INDEX, () -> x.daysIn(1, colour));
        }
        MourningRibbons z = Made.couple(3, 60, 2, 60, 3, 60);
        z.die(0);
        Check.due("daysIn of the longest mourning", z.daysIn(1, 3), 120);
    }

    private static void p26Wearing() {
        MourningRibbons x = Made.coded();
        Made.line(x, 5);
        x.addPerson();
        Check.due("wearing(0)", x.wearing(0), 6);
        x.die(0);
        int[] wearers = {1, 0, 1, 1, 1, 1};
        for (int colour = 0; colour <= 5; colour++) {
            Check.due("wearing(" + colour + ")", x.wearing(colour), wearers[colour]);
        }
        for (int colour : new int[] {6, -1, Integer.MIN_VALUE, Integer.MAX_VALUE}) {
            Check.refuses(x, "wearing(" + colour + ")", INDEX, () -> x.wearing(colour));
        }
    }

    private static void p27Strictest() {
        MourningRibbons x = Made.couple(4, 2, 1, 2, 0, 2);
        Check.due("strictest() of none", x.strictest(), 0);
        x.die(0);
        Check.due("strictest()", x.strictest(), 4);
        x.pass(2);
        Check.due("strictest()", x.strictest(), 1);
        x.pass(2);
        Check.due("strictest() in no colour", x.strictest(), 0);
        MourningRibbons y = Made.couple(4, 2, 1, 2, 0, 2);
        y.die(1);
        y.pass(1);
        Check.due("strictest() of the person 0 on the last day of a stage", y.strictest(), 4);
    }

    private static void p28LongestMourner() {
        MourningRibbons x = Made.coded();
        Made.line(x, 5);
        Check.due("longestMourner() of none", x.longestMourner(), -1);
        x.die(2);
        Check.due("longestMourner() of two alike", x.longestMourner(), 1);
        x.release(1, 2);
        Check.due("longestMourner()", x.longestMourner(), 3);
        x.release(3, 2);
        Check.due("longestMourner() of the rest", x.longestMourner(), 0);
        x.pass(19);
        Check.due("longestMourner() on the last day", x.longestMourner(), 0);
        x.pass(1);
        Check.due("longestMourner() as all is over", x.longestMourner(), -1);
        MourningRibbons y = Made.couple(0, 2, 0, 0, 0, 0);
        y.die(0);
        Check.due("longestMourner() in no colour", y.longestMourner(), 1);
    }

    private static void p29DaysWorn() {
        MourningRibbons x = Made.couple(5, 3, 0, 2, 1, 1);
        x.die(0);
        Check.due("daysWorn() on the first day", x.daysWorn(), 0);
        x.pass(1);
        Check.due("daysWorn() of one day of two people", x.daysWorn(), 2);
        x.pass(3);
        Check.due("daysWorn() not counting a stage of no colour", x.daysWorn(), 6);
        x.release(2, 0);
        x.pass(200);
        Check.due("daysWorn() of one more day of one", x.daysWorn(), 7);
        x.addChild(1);
        x.die(1);
        x.pass(2);
        x.die(4);
        x.pass(5);
        Check.due("daysWorn() of one who dies", x.daysWorn(), 9);
        MourningRibbons y = Made.couple(5, 3, 5, 3, 1, 1);
        y.addChild(2);
        y.die(0);
        y.die(3);
        y.pass(1);
        Check.due("daysWorn() in two mournings counts a day once", y.daysWorn(), 2);
        MourningRibbons z = Made.couple(5, 3, 5, 3, 1, 1);
        z.die(1);
        z.pass(200);
        Check.due("daysWorn() of the person 0", z.daysWorn(), 7);
    }

    // ---- what would be

    private static void p30WouldMourn() {
        MourningRibbons x = Made.coded();
        Made.line(x, 6);
        long before = x.digest();
        Check.due("wouldMourn(5)", x.wouldMourn(5), 4);
        Check.due("wouldMourn(2)", x.wouldMourn(2), 5);
        Check.due("wouldMourn changes nothing", x.digest() == before ? 1 : 0, 1);
        x.die(4);
        Check.due("wouldMourn(5) with one dead", x.wouldMourn(5), 3);
        x.setStage(3, 1, 5, 0);
        Check.due("wouldMourn(5) with a degree of no days", x.wouldMourn(5), 2);
        x.setStage(3, 1, 0, 1);
        Check.due("wouldMourn(5) in no colour", x.wouldMourn(5), 3);
        refusesNoPerson(x, "wouldMourn", x::wouldMourn);
        Check.refuses(x, "wouldMourn of a dead one", STATE, () -> x.wouldMourn(4));
    }

    private static void p31WouldWear() {
        MourningRibbons x = Made.coded();
        Made.line(x, 6);
        long before = x.digest();
        Check.due("wouldWear(1, 0)", x.wouldWear(1, 0), 5);
        Check.due("wouldWear(3, 0) of a later stage", x.wouldWear(3, 0), 2);
        Check.due("wouldWear(5, 0), no kin", x.wouldWear(5, 0), 0);
        Check.due("wouldWear changes nothing", x.digest() == before ? 1 : 0, 1);
        x.die(0);
        Check.due("wouldWear(1, 4), stricter already", x.wouldWear(1, 4), 5);
        Check.due("wouldWear(2, 3), stricter then", x.wouldWear(2, 3), 5);
        x.setStage(1, 0, 4, 1);
        Check.due("wouldWear(2, 3) by the code of now", x.wouldWear(2, 3), 4);
        x.pass(29);
        Check.due("wouldWear(1, 2) on the last day of a stricter stage", x.wouldWear(1, 2), 5);
        x.pass(1);
        Check.due("wouldWear(1, 2) a day later", x.wouldWear(1, 2), 4);
        refusesNoPerson(x, "wouldWear(1, ..)", p -> x.wouldWear(1, p));
        refusesNoPerson(x, "wouldWear(.., 1)", p -> x.wouldWear(p, 1));
        Check.refuses(x, "wouldWear of nobody twice", INDEX, () -> x.wouldWear(16, 16));
        Check.refuses(x, "wouldWear of one twice", ARGUMENT, () -> x.wouldWear(1, 1));
        Check.refuses(x, "wouldWear of a dead one twice", ARGUMENT, () -> x.wouldWear(0, 0));
        Check.refuses(x, "wouldWear of a dead one", STATE, () -> x.wouldWear(0, 1));
        Check.refuses(x, "wouldWear as a dead one dies", STATE, () -> x.wouldWear(1, 0));
    }

    private static void p32HeaviestLoss() {
        MourningRibbons x = new MourningRibbons();
        Check.due("heaviestLoss() of nobody", x.heaviestLoss(), -1);
        Made.line(x, 5);
        Check.due("heaviestLoss() of all alike", x.heaviestLoss(), 0);
        x.setStage(1, 0, 3, 10);
        Check.due("heaviestLoss() of three alike", x.heaviestLoss(), 1);
        x.addChild(3);
        long before = x.digest();
        Check.due("heaviestLoss()", x.heaviestLoss(), 3);
        Check.due("heaviestLoss changes nothing", x.digest() == before ? 1 : 0, 1);
        x.setStage(1, 0, 0, 60);
        Check.due("heaviestLoss() in no colour", x.heaviestLoss(), 0);
        x.setStage(1, 0, 3, 10);
        x.die(3);
        // 2, 4 and 5 wear a colour for ten days anyhow, so only 0 and 1 can bring more; but with 2, 4
        // or 5 their own days go.
        Check.due("heaviestLoss() counts days once, not those of the dying", x.heaviestLoss(), 0);
        x.pass(4);
        x.setStage(1, 0, 1, 6);
        // With 0 go none, and 1 has 6 days: 6 + 18; with 1 go none, 0 has 6, 2 has 6 anyhow: 6 + 18.
        Check.due("heaviestLoss() with mournings of now", x.heaviestLoss(), 0);
        x.setStage(1, 1, 1, 1);
        // With 1 now also 2 has one day more than it has anyhow.
        Check.due("heaviestLoss() with a day more", x.heaviestLoss(), 1);
        for (int person : new int[] {0, 1, 2, 4}) {
            x.die(person);
        }
        Check.due("heaviestLoss() of the last one", x.heaviestLoss(), 5);
        x.die(5);
        Check.due("heaviestLoss() as all are dead", x.heaviestLoss(), -1);
        MourningRibbons y = Made.couple(1, 1, 0, 0, 0, 0);
        y.addChild(3);
        y.addChild(3);
        y.addChild(3);
        Check.due("heaviestLoss() of a colour on one day", y.heaviestLoss(), 3);
        y.die(3);
        // 4, 5 and 6 wear a colour today anyhow: with the death of 0 also 1 and 2 do.
        Check.due("heaviestLoss() with mournings of strangers", y.heaviestLoss(), 0);
        y.die(0);
        // Everybody left wears a colour today: whoever dies, the days of four stay.
        Check.due("heaviestLoss() as all wear a colour", y.heaviestLoss(), 1);
    }

    private static void p33MeanDaysLeft() {
        MourningRibbons x = Made.coded();
        Check.due("meanDaysLeft() of nobody", x.meanDaysLeft(), 0.0);
        Made.line(x, 4);
        Check.due("meanDaysLeft() of none", x.meanDaysLeft(), 0.0);
        x.die(0);
        Check.due("meanDaysLeft()", x.meanDaysLeft(), (60 + 20 + 5) / 3.0);
        x.pass(19);
        Check.due("meanDaysLeft() later", x.meanDaysLeft(), (41 + 1) / 3.0);
        x.die(1);
        x.die(2);
        x.die(3);
        Check.due("meanDaysLeft() as all are dead", x.meanDaysLeft(), 0.0);
        MourningRibbons y = Made.coded();
        Made.line(y, 2);
        y.die(1);
        Check.due("meanDaysLeft() of the person 0", y.meanDaysLeft(), 60.0);
    }

    private static void p34Digest() {
        MourningRibbons x = new MourningRibbons();
        // Behind 1931 come 0, 0, 0, 0, -1, 0 and 24 zeros.
        long empty = 1931;
        for (int i = 0; i < 30; i++) {
            empty = empty * 31 - (i == 4 ? 1 : 0);
        }
        Check.due("digest() of a new object", x.digest() == empty ? 1 : 0, 1);
        x.setStage(1, 0, 5, 30);
        x.setStage(2, 2, 4, 7);
        x.addPerson();
        x.addChild(0);
        x.addChild(1);
        x.marry(1, 2);
        x.die(0);
        x.pass(3);
        int[] numbers = {3, 2, 3, 5, 1, 6,
            5, 30, 0, 0, 0, 0, 0, 0, 0, 0, 4, 7, 0, 0, 0, 0, 0, 0, 0, 0, 0, 0, 0, 0,
            0, -1, -1, 0, 0, 0, -1, 1, 1, 0, 0,
            1, 0, 2, 5, 1, 27, 27, 1, 0, 0, 0,
            1, 1, 1, 4, 1, 4, 4, 1, 0, 0, 0};
        long d = 1931;
        for (int number : numbers) {
            d = d * 31 + number;
        }
        Check.due("digest()", x.digest() == d ? 1 : 0, 1);
    }

    /** As many people as there can be: each answer once more. */
    private static void fullHouse() {
        MourningRibbons x = Made.coded();
        Made.line(x, 16);
        Check.due("wouldMourn(15)", x.wouldMourn(15), 4);
        Check.due("heaviestLoss(), the first with kin of each degree on both sides", x.heaviestLoss(), 4);
        Check.due("die(15)", x.die(15), 4);
        Check.due("pass(1)", x.pass(1), 4);
        Check.due("living()", x.living(), 15);
        Check.due("degreeOf(15, 11)", x.degreeOf(15, 11), 4);
        Check.due("kinOf(15, 4)", x.kinOf(15, 4), 1);
        Check.due("colourOf(14)", x.colourOf(14), 5);
        Check.due("daysLeft(11)", x.daysLeft(11), 2);
        Check.due("strictest()", x.strictest(), 5);
        Check.due("wearing(0)", x.wearing(0), 11);
        Check.due("longestMourner()", x.longestMourner(), 14);
        Check.due("meanDaysLeft()", x.meanDaysLeft(), (59 + 19 + 4 + 2) / 15.0);
        Check.due("die(14)", x.die(14), 4);
        Check.due("wouldWear(13, 12)", x.wouldWear(13, 12), 5);
        Check.due("release(13, 15)", x.release(13, 15), 19);
        Check.due("daysWorn()", x.daysWorn(), 4);
        refusesNoPerson(x, "colourOf", x::colourOf);
    }
}
