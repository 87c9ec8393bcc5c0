/** The boundary cases that promises 1 to 17 name: families, the code, deaths and days. */
final class BoundsOfPeople {
    private static final String NO_PERSON = "Throws `IndexOutOfBoundsException` if there is no such person";
    private static final String NO_STAGE =
            "Throws `IndexOutOfBoundsException` if degree is not 1 to 4, or stage is not 0 to 2";

    private BoundsOfPeople() {
    }

    static void run() {
        p01NewObject();
        p02AddPerson();
        p03AddChild();
        p03DeadParentOrFull();
        p04MarryAnswers();
        p04MarryRefuses();
        p05SetStage();
        p05SetStageRefuses();
        p06Die();
        p07Release();
        p07ReleaseRefuses();
        p08Pass();
        p09People();
        p10Living();
        p11IsAlive();
        p12ParentOf();
        p13MarriedTo();
        p14DegreeOf();
        p15KinOf();
        p16StageColour();
        p17StageDays();
    }

    private static void p01NewObject() {
        Bounds.promise(1, "Creates a code of no days, without people, on the day 0.");
        MourningRibbons x = new MourningRibbons();
        Bounds.due("people()", x.people(), 0);
        Bounds.due("living()", x.living(), 0);
        Bounds.due("day()", x.day(), 0);
        Bounds.due("strictest()", x.strictest(), 0);
        Bounds.due("longestMourner()", x.longestMourner(), -1);
        Bounds.due("daysWorn()", x.daysWorn(), 0);
        Bounds.due("heaviestLoss()", x.heaviestLoss(), -1);
        Bounds.due("meanDaysLeft()", x.meanDaysLeft(), 0.0);
        for (int colour = 0; colour <= 5; colour++) {
            Bounds.due("wearing(" + colour + ")", x.wearing(colour), 0);
        }
        for (int degree = 1; degree <= 4; degree++) {
            for (int stage = 0; stage <= 2; stage++) {
                Bounds.due("stageColour(" + degree + ", " + stage + ")", x.stageColour(degree, stage), 0);
                Bounds.due("stageDays(" + degree + ", " + stage + ")", x.stageDays(degree, stage), 0);
            }
        }
        Bounds.due("pass(1)", x.pass(1), 0);
        Bounds.due("pass(200)", x.pass(200), 0);
        Made.full();
        Bounds.due("people() beside a full object", x.people(), 0);
        Bounds.due("day() beside another object", x.day(), 201);
    }

    private static void p02AddPerson() {
        Bounds.promise(2, "Returns the number of a new person without a parent.");
        MourningRibbons x = new MourningRibbons();
        for (int person = 0; person < 16; person++) {
            Bounds.due("addPerson()", x.addPerson(), person);
            Bounds.due("parentOf(" + person + ")", x.parentOf(person), -1);
            Bounds.due("living()", x.living(), 1);
            x.die(person);
        }
        Bounds.promise(2, "Throws `IllegalStateException` if there are 16");
        Bounds.refuses(() -> Made.strangers(Made.coded(), 16), "the 17th", Bounds.STATE, y -> y.addPerson());
        Bounds.refuses(Made::full, "the 17th, one dead", Bounds.STATE, y -> y.addPerson());
        Bounds.refuses(BoundsOfPeople::allDead, "the 17th, all dead", Bounds.STATE, y -> y.addPerson());
        Bounds.due("the 16th", Made.line(new MourningRibbons(), 15).addPerson(), 15);
    }

    private static MourningRibbons allDead() {
        MourningRibbons x = Made.line(Made.coded(), 16);
        for (int person = 0; person < 16; person++) {
            x.die(person);
        }
        return x;
    }

    private static void p03AddChild() {
        Bounds.promise(3, "Returns the number of this person.");
        MourningRibbons x = new MourningRibbons();
        x.addPerson();
        for (int child = 1; child < 16; child++) {
            Bounds.due("addChild(" + (child - 1) + ")", x.addChild(child - 1), child);
            Bounds.due("parentOf(" + child + ")", x.parentOf(child), child - 1);
            Bounds.due("marriedTo(" + child + ")", x.marriedTo(child), -1);
        }
        MourningRibbons y = Made.strangers(new MourningRibbons(), 3);
        y.marry(0, 1);
        y.die(0);
        y.die(2);
        Bounds.due("addChild of a widow; numbers of the dead are not used anew", y.addChild(1), 3);
        Bounds.due("parentOf(3)", y.parentOf(3), 1);
        Bounds.due("isAlive(3)", y.isAlive(3), true);
        Bounds.promise(3, "Throws `IndexOutOfBoundsException` if there is no such parent");
        Bounds.needsPerson("addChild", (z, person) -> z.addChild(person));
    }

    private static void p03DeadParentOrFull() {
        Bounds.promise(3, "Throws `IllegalStateException` if the parent is dead, or there are 16");
        Bounds.refuses(Made::family, "addChild(1), dead", Bounds.STATE, x -> x.addChild(1));
        Bounds.refuses(Made::family, "addChild(3), dead", Bounds.STATE, x -> x.addChild(3));
        for (int parent = 0; parent < 16; parent++) {
            int of = parent;
            Bounds.refuses(Made::full, "addChild(" + of + ") with 16", Bounds.STATE, x -> x.addChild(of));
        }
        Bounds.due("the 16th person", Made.line(new MourningRibbons(), 15).addChild(14), 15);
    }

    private static void p04MarryAnswers() {
        Bounds.promise(4, "Returns their degree ahead of it, 0 if they were not kin.");
        int[] due = {0, 1, 2, 3, 4, 0, 0};
        for (int other = 1; other < 7; other++) {
            MourningRibbons x = Made.line(new MourningRibbons(), 7);
            Bounds.due("marry(0, " + other + ") in a line", x.marry(0, other), due[other]);
            Bounds.due("degreeOf(0, " + other + ") then", x.degreeOf(0, other), 1);
            MourningRibbons y = Made.line(new MourningRibbons(), 7);
            Bounds.due("marry(" + other + ", 0) in a line", y.marry(other, 0), due[other]);
        }
        MourningRibbons z = Made.strangers(new MourningRibbons(), 16);
        Bounds.due("marry(0, 15), strangers", z.marry(0, 15), 0);
        z.die(15);
        Bounds.due("marry(0, 14), of the widow", z.marry(0, 14), 0);
        MourningRibbons y = Made.strangers(new MourningRibbons(), 2);
        y.marry(0, 1);
        y.addChild(1);
        y.die(1);
        Bounds.due("marry(0, 2), a child of the dead one to whom 0 was married", y.marry(0, 2), 2);
    }

    private static void p04MarryRefuses() {
        Bounds.promise(4, NO_PERSON);
        Bounds.needsPerson("marry(.., 0)", (x, person) -> x.marry(person, 0));
        Bounds.needsPerson("marry(0, ..)", (x, person) -> x.marry(0, person));
        Bounds.needsPerson("marry twice", (x, person) -> x.marry(person, person));
        Bounds.promise(4, "Throws `IllegalArgumentException` if both are the same");
        Bounds.refuses(Made::one, "marry(0, 0)", Bounds.ARGUMENT, x -> x.marry(0, 0));
        for (int person = 0; person < 16; person++) {
            int same = person;
            Bounds.refuses(Made::full, "marry one to oneself", Bounds.ARGUMENT, x -> x.marry(same, same));
        }
        Bounds.promise(4, "Throws `IllegalStateException` if one of them is dead, or is married to a living one");
        Bounds.refuses(Made::family, "marry(1, 4), the first dead", Bounds.STATE, x -> x.marry(1, 4));
        Bounds.refuses(Made::family, "marry(4, 1), the second dead", Bounds.STATE, x -> x.marry(4, 1));
        Bounds.refuses(Made::family, "marry(1, 3), both dead", Bounds.STATE, x -> x.marry(1, 3));
        Bounds.refuses(Made::family, "marry(0, 1), the dead spouse", Bounds.STATE, x -> x.marry(0, 1));
        Bounds.refuses(Made::family, "marry(2, 4), the first married", Bounds.STATE, x -> x.marry(2, 4));
        Bounds.refuses(Made::family, "marry(4, 2), the second married", Bounds.STATE, x -> x.marry(4, 2));
        Bounds.refuses(Made::family, "marry(0, 5), a widow to a married one", Bounds.STATE, x -> x.marry(0, 5));
        Bounds.refuses(Made::family, "marry(2, 5), a couple", Bounds.STATE, x -> x.marry(2, 5));
        Bounds.refuses(Made::family, "marry(5, 2), a couple", Bounds.STATE, x -> x.marry(5, 2));
        Bounds.due("marry(0, 7), a widow", Made.family().marry(0, 7), 0);
        Bounds.due("marry(7, 0), a widow", Made.family().marry(7, 0), 0);
    }

    private static void p05SetStage() {
        Bounds.promise(5, "Sets a stage of the code; mournings of now stay as they are.");
        MourningRibbons x = Made.full();
        for (int degree = 1; degree <= 4; degree++) {
            for (int stage = 0; stage <= 2; stage++) {
                x.setStage(degree, stage, 5, 60);
            }
        }
        int[] left = {1, 3, 18, 58};
        int[] colours = {4, 2, 3, 5};
        for (int i = 0; i < 4; i++) {
            Bounds.due("daysLeft(" + (11 + i) + ")", x.daysLeft(11 + i), left[i]);
            Bounds.due("colourOf(" + (11 + i) + ")", x.colourOf(11 + i), colours[i]);
        }
        Bounds.due("die(0), by the code of now", x.die(0), 4);
        Bounds.due("daysLeft(4)", x.daysLeft(4), 180);
        Bounds.promise(5, "Returns how many days the three stages of the degree have together then.");
        MourningRibbons y = new MourningRibbons();
        Bounds.due("of 0, 0, 0", y.setStage(4, 0, 5, 0), 0);
        Bounds.due("of 0, 0, 1", y.setStage(4, 2, 0, 1), 1);
        Bounds.due("of 60, 0, 1", y.setStage(4, 0, 5, 60), 61);
        Bounds.due("of 60, 60, 1", y.setStage(4, 1, 5, 60), 121);
        Bounds.due("of 60, 60, 60", y.setStage(4, 2, 5, 60), 180);
        Bounds.due("of another degree", y.setStage(3, 2, 5, 60), 60);
        Bounds.due("of 60, 60, 0", y.setStage(4, 2, 5, 0), 120);
    }

    private static void p05SetStageRefuses() {
        Bounds.promise(5, NO_STAGE);
        Bounds.needsStage("setStage", (x, degree, stage) -> x.setStage(degree, stage, 1, 1));
        Bounds.promise(5, "Throws `IllegalArgumentException` if colour is not 0 to 5, or days is not 0 to 60");
        for (int colour : Bounds.outside(0, 5)) {
            Bounds.refuses(Made::family, "colour " + colour, Bounds.ARGUMENT, x -> x.setStage(1, 0, colour, 1));
            Bounds.refuses(Made::family, "colour " + colour, Bounds.ARGUMENT, x -> x.setStage(4, 2, colour, 0));
        }
        for (int days : Bounds.outside(0, 60)) {
            Bounds.refuses(Made::family, "days " + days, Bounds.ARGUMENT, x -> x.setStage(1, 0, 1, days));
            Bounds.refuses(Made::family, "days " + days, Bounds.ARGUMENT, x -> x.setStage(4, 2, 0, days));
        }
        Bounds.refuses(Made::family, "both wrong", Bounds.ARGUMENT, x -> x.setStage(1, 0, 6, 61));
        Bounds.due("colour 0 and days 0", new MourningRibbons().setStage(1, 0, 0, 0), 0);
        Bounds.due("colour 5 and days 60", new MourningRibbons().setStage(4, 2, 5, 60), 60);
    }

    private static void p06Die() {
        Bounds.promise(6, "Returns how many people mourn this one (with some days).");
        Bounds.due("die of the only one", Made.one().die(0), 0);
        Bounds.due("die with a code of no days", Made.star(new MourningRibbons(), 16).die(0), 0);
        Bounds.due("die with colours, but no days",
                Made.star(Made.nearest(5, 0, 5, 0, 5, 0), 16).die(0), 0);
        Bounds.due("die with one day", Made.star(Made.nearest(0, 0, 0, 0, 0, 1), 16).die(0), 15);
        Bounds.due("die of a stranger", Made.strangers(Made.coded(), 16).die(15), 0);
        MourningRibbons x = Made.star(Made.nearest(5, 1, 0, 0, 0, 0), 16);
        Bounds.due("die(15), whose siblings have no days", x.die(15), 1);
        Bounds.due("die(0), mourned by all but the dead one", x.die(0), 14);
        Bounds.due("die(14), with kin of no days", x.die(14), 0);
        Bounds.promise(6, NO_PERSON);
        Bounds.needsPerson("die", (y, person) -> y.die(person));
        Bounds.promise(6, "Throws `IllegalStateException` if this person is dead");
        Bounds.refuses(Made::family, "die(1)", Bounds.STATE, y -> y.die(1));
        Bounds.refuses(Made::full, "die(15)", Bounds.STATE, y -> y.die(15));
        Bounds.refuses(BoundsOfPeople::allDead, "die(0) as all are dead", Bounds.STATE, y -> y.die(0));
    }

    private static MourningRibbons mourning180() {
        MourningRibbons x = Made.line(Made.nearest(5, 60, 0, 60, 1, 60), 2);
        x.die(0);
        return x;
    }

    private static void p07Release() {
        Bounds.promise(7, "Returns how many days were left.");
        int[] days = {0, 1, 59, 60, 179};
        for (int gone : days) {
            MourningRibbons x = mourning180();
            if (gone > 0) {
                x.pass(gone);
            }
            Bounds.due("release(1, 0) behind " + gone + " days", x.release(1, 0), 180 - gone);
            Bounds.due("daysLeftFor(1, 0) then", x.daysLeftFor(1, 0), 0);
            Bounds.due("colourIn(1, 0) then", x.colourIn(1, 0), 0);
            Bounds.due("mourningsOf(1) then", x.mourningsOf(1), 0);
        }
        MourningRibbons y = Made.family();
        Bounds.due("release(0, 3)", y.release(0, 3), 59);
        Bounds.due("mourningsOf(0), the other one left", y.mourningsOf(0), 1);
        Bounds.due("mourningsOf(2), not released", y.mourningsOf(2), 2);
    }

    private static void p07ReleaseRefuses() {
        Bounds.promise(7, NO_PERSON);
        Bounds.needsPerson("release(.., 0)", (x, person) -> x.release(person, 0));
        Bounds.needsPerson("release(0, ..)", (x, person) -> x.release(0, person));
        Bounds.needsPerson("release twice", (x, person) -> x.release(person, person));
        Bounds.promise(7, "Throws `IllegalStateException` if this person does not mourn that one today");
        Bounds.refuses(Made::family, "release(0, 2), alive", Bounds.STATE, x -> x.release(0, 2));
        Bounds.refuses(Made::family, "release(0, 0)", Bounds.STATE, x -> x.release(0, 0));
        Bounds.refuses(Made::family, "release(1, 1), dead", Bounds.STATE, x -> x.release(1, 1));
        Bounds.refuses(Made::family, "release(1, 0), the dead from the mourner", Bounds.STATE, x -> x.release(1, 0));
        Bounds.refuses(Made::family, "release(3, 1), the mourner died", Bounds.STATE, x -> x.release(3, 1));
        Bounds.refuses(Made::family, "release(7, 1), no kin", Bounds.STATE, x -> x.release(7, 1));
        Bounds.refuses(BoundsOfPeople::over, "release(1, 0) a day too late", Bounds.STATE, x -> x.release(1, 0));
        Bounds.refuses(BoundsOfPeople::released, "release(1, 0) twice", Bounds.STATE, x -> x.release(1, 0));
        Bounds.refuses(BoundsOfPeople::noDays, "release(1, 0), of no days", Bounds.STATE, x -> x.release(1, 0));
    }

    private static MourningRibbons over() {
        MourningRibbons x = mourning180();
        x.pass(180);
        return x;
    }

    private static MourningRibbons released() {
        MourningRibbons x = mourning180();
        x.release(1, 0);
        return x;
    }

    private static MourningRibbons noDays() {
        MourningRibbons x = Made.line(Made.nearest(5, 0, 5, 0, 5, 0), 2);
        x.die(0);
        x.setStage(1, 0, 5, 60);
        return x;
    }

    private static void p08Pass() {
        Bounds.promise(8, "Returns how many people wear a colour then.");
        Bounds.due("pass(1) of nobody", new MourningRibbons().pass(1), 0);
        MourningRibbons x = Made.star(Made.nearest(1, 2, 0, 1, 5, 2), 16);
        Bounds.due("pass(1) without a mourning", x.pass(1), 0);
        x.die(0);
        int[] wearers = {15, 0, 15, 15, 0, 0};
        for (int day = 0; day < wearers.length; day++) {
            Bounds.due("pass(1), " + (day + 1) + " days behind the death", x.pass(1), wearers[day]);
        }
        MourningRibbons y = Made.star(Made.nearest(1, 60, 1, 60, 5, 60), 16);
        y.die(0);
        y.release(15, 0);
        y.die(14);
        Bounds.due("pass(179) to the last day", y.pass(179), 13);
        Bounds.due("pass(200) beyond it", y.pass(200), 0);
        Bounds.due("day()", y.day(), 379);
        Bounds.promise(8, "Throws `IllegalArgumentException` if days is not 1 to 200");
        for (int days : Bounds.outside(1, 200)) {
            Bounds.refuses(Made::family, "pass(" + days + ")", Bounds.ARGUMENT, z -> z.pass(days));
            Bounds.refuses(Made::empty, "pass(" + days + ")", Bounds.ARGUMENT, z -> z.pass(days));
        }
        Bounds.due("pass(1)", Made.full().pass(1), 3);
        Bounds.due("pass(200)", Made.full().pass(200), 0);
    }

    private static void p09People() {
        Bounds.promise(9, "Returns how many people there are, dead ones as well.");
        Bounds.due("people() of a new object", new MourningRibbons().people(), 0);
        Bounds.due("people() of one", Made.one().people(), 1);
        Bounds.due("people() with two dead", Made.family().people(), 8);
        Bounds.due("people() of 16", Made.full().people(), 16);
        Bounds.due("people() with all dead", allDead().people(), 16);
    }

    private static void p10Living() {
        Bounds.promise(10, "Returns how many people are alive.");
        Bounds.due("living() of a new object", new MourningRibbons().living(), 0);
        Bounds.due("living() of one", Made.one().living(), 1);
        Bounds.due("living() with two dead", Made.family().living(), 6);
        Bounds.due("living() of 16", Made.line(new MourningRibbons(), 16).living(), 16);
        Bounds.due("living() with one of 16 dead", Made.full().living(), 15);
        Bounds.due("living() with all dead", allDead().living(), 0);
    }

    private static void p11IsAlive() {
        Bounds.promise(11, "Returns whether this one is alive.");
        boolean[] alive = {true, false, true, false, true, true, true, true};
        for (int person = 0; person < 8; person++) {
            Bounds.due("isAlive(" + person + ")", Made.family().isAlive(person), alive[person]);
        }
        Bounds.due("isAlive(15), dead", Made.full().isAlive(15), false);
        Bounds.due("isAlive(14)", Made.full().isAlive(14), true);
        Bounds.promise(11, NO_PERSON);
        Bounds.needsPerson("isAlive", (x, person) -> x.isAlive(person));
    }

    private static void p12ParentOf() {
        Bounds.promise(12, "Returns the parent; -1 for none.");
        int[] parents = {-1, -1, 0, 0, 2, -1, 4, -1};
        for (int person = 0; person < 8; person++) {
            Bounds.due("parentOf(" + person + ")", Made.family().parentOf(person), parents[person]);
        }
        Bounds.due("parentOf(15)", Made.full().parentOf(15), 14);
        Bounds.due("parentOf(1), the parent dead", allDead().parentOf(1), 0);
        Bounds.promise(12, NO_PERSON);
        Bounds.needsPerson("parentOf", (x, person) -> x.parentOf(person));
    }

    private static void p13MarriedTo() {
        Bounds.promise(13, "Returns the one to whom this person is married, alive or dead; -1 for nobody.");
        int[] spouses = {1, 0, 5, -1, -1, 2, -1, -1};
        for (int person = 0; person < 8; person++) {
            Bounds.due("marriedTo(" + person + ")", Made.family().marriedTo(person), spouses[person]);
        }
        MourningRibbons x = Made.line(new MourningRibbons(), 16);
        x.marry(15, 0);
        Bounds.due("marriedTo(15)", x.marriedTo(15), 0);
        Bounds.due("marriedTo(0)", x.marriedTo(0), 15);
        Bounds.promise(13, NO_PERSON);
        Bounds.needsPerson("marriedTo", (y, person) -> y.marriedTo(person));
    }

    private static void p14DegreeOf() {
        Bounds.promise(14, "Returns their degree; 0 if they are not kin, or the same.");
        MourningRibbons x = Made.full();
        int[] of15 = {0, 0, 0, 0, 0, 0, 0, 0, 0, 0, 0, 4, 3, 2, 1, 0};
        for (int person = 0; person < 16; person++) {
            Bounds.due("degreeOf(15, " + person + ")", x.degreeOf(15, person), of15[person]);
            Bounds.due("degreeOf(" + person + ", 15)", x.degreeOf(person, 15), of15[person]);
            Bounds.due("degreeOf(" + person + ", itself)", x.degreeOf(person, person), 0);
        }
        // 0 and 1 are a couple, 2 and 3 children of 0, 5 the spouse of 2, 6 the child of its child 4.
        int[] of6 = {3, 4, 2, 4, 1, 3, 0, 0};
        for (int person = 0; person < 8; person++) {
            Bounds.due("degreeOf(6, " + person + ") in the family", Made.family().degreeOf(6, person), of6[person]);
        }
        Bounds.promise(14, NO_PERSON);
        Bounds.needsPerson("degreeOf(.., 0)", (y, person) -> y.degreeOf(person, 0));
        Bounds.needsPerson("degreeOf(0, ..)", (y, person) -> y.degreeOf(0, person));
        Bounds.needsPerson("degreeOf twice", (y, person) -> y.degreeOf(person, person));
    }

    private static void p15KinOf() {
        Bounds.promise(15, "Returns how many living others have this degree to this one.");
        MourningRibbons star = Made.star(new MourningRibbons(), 16);
        kinOf("a parent of 15", star, 0, 15, 0, 0, 0);
        kinOf("one of 15 siblings", star, 15, 1, 14, 0, 0);
        star.die(15);
        star.die(0);
        kinOf("a dead parent", star, 0, 14, 0, 0, 0);
        kinOf("one whose parent is dead", star, 1, 0, 13, 0, 0);
        kinOf("a dead sibling", star, 15, 0, 14, 0, 0);
        kinOf("the only one", Made.one(), 0, 0, 0, 0, 0);
        kinOf("a stranger", Made.strangers(new MourningRibbons(), 16), 7, 0, 0, 0, 0);
        kinOf("the first of a line", Made.full(), 0, 1, 1, 1, 1);
        kinOf("one within a line", Made.full(), 8, 2, 2, 2, 2);
        kinOf("one near the line's dead end", Made.full(), 11, 2, 2, 2, 1);
        Bounds.promise(15, "Throws `IndexOutOfBoundsException` if there is no such person, or degree is not 1 to 4");
        Bounds.needsPerson("kinOf(.., 1)", (x, person) -> x.kinOf(person, 1));
        Bounds.needsPerson("kinOf(.., 4)", (x, person) -> x.kinOf(person, 4));
        Bounds.needsPerson("kinOf(.., 5)", (x, person) -> person < x.people() && person >= 0 ? 0 : x.kinOf(person, 5));
        for (int degree : Bounds.outside(1, 4)) {
            Bounds.refuses(Made::family, "kinOf(0, " + degree + ")", Bounds.INDEX, x -> x.kinOf(0, degree));
            Bounds.refuses(Made::full, "kinOf(15, " + degree + ")", Bounds.INDEX, x -> x.kinOf(15, degree));
        }
    }

    private static void kinOf(String what, MourningRibbons x, int person, int... due) {
        for (int degree = 1; degree <= 4; degree++) {
            Bounds.due("kinOf(" + person + ", " + degree + ") of " + what, x.kinOf(person, degree), due[degree - 1]);
        }
    }

    private static void p16StageColour() {
        Bounds.promise(16, "Returns its colour.");
        MourningRibbons x = new MourningRibbons();
        for (int degree = 1; degree <= 4; degree++) {
            for (int stage = 0; stage <= 2; stage++) {
                for (int colour : new int[] {5, 0}) {
                    x.setStage(degree, stage, colour, 60);
                    Bounds.due("stageColour(" + degree + ", " + stage + ")", x.stageColour(degree, stage), colour);
                }
            }
        }
        Bounds.promise(16, NO_STAGE);
        Bounds.needsStage("stageColour", (y, degree, stage) -> y.stageColour(degree, stage));
    }

    private static void p17StageDays() {
        Bounds.promise(17, "Returns its days.");
        MourningRibbons x = new MourningRibbons();
        for (int degree = 1; degree <= 4; degree++) {
            for (int stage = 0; stage <= 2; stage++) {
                for (int days : new int[] {60, 0}) {
                    x.setStage(degree, stage, 5, days);
                    Bounds.due("stageDays(" + degree + ", " + stage + ")", x.stageDays(degree, stage), days);
                }
            }
        }
        Bounds.promise(17, NO_STAGE);
        Bounds.needsStage("stageDays", (y, degree, stage) -> y.stageDays(degree, stage));
    }
}
