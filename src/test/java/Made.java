/** Objects that the tests begin with. */
final class Made {
    private Made() {
    }

    static MourningRibbons empty() {
        return new MourningRibbons();
    }

    /** A code with days in all degrees, no people. */
    static MourningRibbons coded() {
        MourningRibbons x = new MourningRibbons();
        x.setStage(1, 0, 5, 30);
        x.setStage(1, 1, 3, 20);
        x.setStage(1, 2, 1, 10);
        x.setStage(2, 0, 3, 10);
        x.setStage(2, 1, 1, 10);
        x.setStage(3, 1, 2, 5);
        x.setStage(4, 2, 4, 3);
        return x;
    }

    /** A code in which only the degree 1 has days, no people. */
    static MourningRibbons nearest(int colour0, int days0, int colour1, int days1, int colour2, int days2) {
        MourningRibbons x = new MourningRibbons();
        x.setStage(1, 0, colour0, days0);
        x.setStage(1, 1, colour1, days1);
        x.setStage(1, 2, colour2, days2);
        return x;
    }

    /** 0, its child 1, and so on: each the child of the one ahead of it. */
    static MourningRibbons line(MourningRibbons x, int people) {
        x.addPerson();
        for (int person = 1; person < people; person++) {
            x.addChild(person - 1);
        }
        return x;
    }

    /** 0 and its children. */
    static MourningRibbons star(MourningRibbons x, int people) {
        x.addPerson();
        for (int person = 1; person < people; person++) {
            x.addChild(0);
        }
        return x;
    }

    /** People who are no kin. */
    static MourningRibbons strangers(MourningRibbons x, int people) {
        for (int person = 0; person < people; person++) {
            x.addPerson();
        }
        return x;
    }

    /** The couple 0 and 1, whose child (of 0) is 2; 3 is alone; only the degree 1 has days. */
    static MourningRibbons couple(int colour0, int days0, int colour1, int days1, int colour2, int days2) {
        MourningRibbons x = nearest(colour0, days0, colour1, days1, colour2, days2);
        x.addPerson();
        x.addPerson();
        x.marry(0, 1);
        x.addChild(0);
        x.addPerson();
        return x;
    }

    static MourningRibbons one() {
        return line(coded(), 1);
    }

    /**
     * Something of everything: 0 is the widow of 1; of her children 2, married to 5, lives, and 3 is
     * dead; 4 is a child of 2, and 6 of 4; 7 is alone. It is the day 5.
     */
    static MourningRibbons family() {
        MourningRibbons x = coded();
        x.addPerson();
        x.addPerson();
        x.marry(0, 1);
        x.addChild(0);
        x.addChild(0);
        x.addChild(2);
        x.addPerson();
        x.marry(2, 5);
        x.addChild(4);
        x.addPerson();
        x.die(1);
        x.pass(4);
        x.die(3);
        x.setStage(1, 0, 4, 2);
        x.pass(1);
        return x;
    }

    /** As many people as there can be, in a line; the last is dead. It is the day 2. */
    static MourningRibbons full() {
        MourningRibbons x = line(coded(), 16);
        x.die(15);
        x.pass(2);
        return x;
    }
}
