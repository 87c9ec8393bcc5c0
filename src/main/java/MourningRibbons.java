import java.util.Arrays;

/** A code of mourning colours. */
public final class MourningRibbons {
    private static final int MOST_PEOPLE = 16;
    private static final int MOST_DEGREE = 4;
    private static final int STAGES = 3;
    private static final int MOST_COLOUR = 5;
    private static final int MOST_STAGE_DAYS = 60;
    private static final int LONGEST_MOURNING = STAGES * MOST_STAGE_DAYS;
    private static final int MOST_DAYS_AHEAD = 200;
    private static final int NOBODY = -1;
    private static final int NO_COLOUR = 0;

    private final Family family = new Family();
    private final Codes codes = new Codes();

    /** The degree by which a person mourns a dead one, at person * MOST_PEOPLE + dead; 0 if not. */
    private final int[] mournedBy = new int[MOST_PEOPLE * MOST_PEOPLE];
    private final int[] deathDay = new int[MOST_PEOPLE];
    private int today;
    private int wornSoFar;

    // Rows for one call's reckoning, kept so that no call makes new ones.
    private final int[] ahead = new int[LONGEST_MOURNING];
    private final int[] wornIfLost = new int[MOST_DEGREE + 1];
    private final int[] loss = new int[MOST_PEOPLE];

    public MourningRibbons() {
    }

    // ---- families and the code

    public int addPerson() throws IllegalStateException {
        needRoom();
        return family.add(NOBODY);
    }

    public int addChild(int parent) throws IndexOutOfBoundsException, IllegalStateException {
        needPerson(parent);
        needAlive(parent);
        needRoom();
        return family.add(parent);
    }

    public int marry(int a, int b) throws IndexOutOfBoundsException, IllegalArgumentException, IllegalStateException {
        needPerson(a);
        needPerson(b);
        needTwo(a, b);
        needAlive(a);
        needAlive(b);
        if (family.hasLivingSpouse(a) || family.hasLivingSpouse(b)) {
            throw new IllegalStateException("one of them is married to a living one");
        }
        family.findDegrees(a);
        int degreeAhead = family.degrees[b];
        family.wed(a, b);
        return degreeAhead;
    }

    public int setStage(int degree, int stage, int colour, int days)
            throws IndexOutOfBoundsException, IllegalArgumentException {
        needStage(degree, stage);
        if (colour < NO_COLOUR || colour > MOST_COLOUR) {
            throw new IllegalArgumentException("a colour is 0 to 5");
        }
        if (days < 0 || days > MOST_STAGE_DAYS) {
            throw new IllegalArgumentException("a stage has 0 to 60 days");
        }
        int place = Codes.place(Codes.NOW, degree, stage);
        codes.colours[place] = colour;
        codes.days[place] = days;
        return codes.daysOfAll(Codes.NOW, degree);
    }

    // ---- deaths and days

    public int die(int person) throws IndexOutOfBoundsException, IllegalStateException {
        needPerson(person);
        needAlive(person);
        family.alive[person] = false;
        deathDay[person] = today;
        codes.keepFor(person);
        endMourningsOf(person);
        return beginMourningsFor(person);
    }

    public int release(int person, int dead) throws IndexOutOfBoundsException, IllegalStateException {
        needPerson(person);
        needPerson(dead);
        int left = leftFor(person, dead);
        if (left == 0) {
            throw new IllegalStateException("this person does not mourn that one today");
        }
        mournedBy[pair(person, dead)] = 0;
        return left;
    }

    public int pass(int days) throws IllegalArgumentException {
        if (days < 1 || days > MOST_DAYS_AHEAD) {
            throw new IllegalArgumentException("1 to 200 days go by");
        }
        for (int person = 0; person < family.count; person++) {
            paintAhead(person);
            wornSoFar += wornAhead(days);
        }
        today += days;
        return family.livingCount() - countWearing(NO_COLOUR);
    }

    // ---- people and the code

    public int people() {
        return family.count;
    }

    public int living() {
        return family.livingCount();
    }

    public boolean isAlive(int person) throws IndexOutOfBoundsException {
        needPerson(person);
        return family.alive[person];
    }

    public int parentOf(int person) throws IndexOutOfBoundsException {
        needPerson(person);
        return family.parent[person];
    }

    public int marriedTo(int person) throws IndexOutOfBoundsException {
        needPerson(person);
        return family.spouse[person];
    }

    public int degreeOf(int a, int b) throws IndexOutOfBoundsException {
        needPerson(a);
        needPerson(b);
        family.findDegrees(a);
        return family.degrees[b];
    }

    public int kinOf(int person, int degree) throws IndexOutOfBoundsException {
        needPerson(person);
        needDegree(degree);
        family.findDegrees(person);
        return family.countKin(degree);
    }

    public int stageColour(int degree, int stage) throws IndexOutOfBoundsException {
        needStage(degree, stage);
        return codes.colours[Codes.place(Codes.NOW, degree, stage)];
    }

    public int stageDays(int degree, int stage) throws IndexOutOfBoundsException {
        needStage(degree, stage);
        return codes.days[Codes.place(Codes.NOW, degree, stage)];
    }

    // ---- mourning

    public int day() {
        return today;
    }

    public int colourOf(int person) throws IndexOutOfBoundsException {
        needPerson(person);
        return colourAfter(person, 0);
    }

    public int colourIn(int person, int days) throws IndexOutOfBoundsException, IllegalArgumentException {
        needPerson(person);
        if (days < 0 || days > MOST_DAYS_AHEAD) {
            throw new IllegalArgumentException("colours are told 0 to 200 days ahead");
        }
        return colourAfter(person, days);
    }

    public int mourningsOf(int person) throws IndexOutOfBoundsException {
        needPerson(person);
        return countMournings(person);
    }

    public int daysLeftFor(int person, int dead) throws IndexOutOfBoundsException {
        needPerson(person);
        needPerson(dead);
        return leftFor(person, dead);
    }

    public int daysLeft(int person) throws IndexOutOfBoundsException {
        needPerson(person);
        return longestLeft(person);
    }

    public int daysUntilLighter(int person) throws IndexOutOfBoundsException {
        needPerson(person);
        paintAhead(person);
        return firstLighterDay();
    }

    public int daysIn(int person, int colour) throws IndexOutOfBoundsException {
        needPerson(person);
        if (colour <= NO_COLOUR || colour > MOST_COLOUR) {
            throw new IndexOutOfBoundsException("such a colour is 1 to 5");
        }
        paintAhead(person);
        return countAhead(colour);
    }

    public int wearing(int colour) throws IndexOutOfBoundsException {
        if (colour < NO_COLOUR || colour > MOST_COLOUR) {
            throw new IndexOutOfBoundsException("a colour is 0 to 5");
        }
        return countWearing(colour);
    }

    public int strictest() {
        int strictestColour = NO_COLOUR;
        for (int person = 0; person < family.count; person++) {
            strictestColour = Math.max(strictestColour, colourAfter(person, 0));
        }
        return strictestColour;
    }

    public int longestMourner() {
        int longest = NOBODY;
        int most = 0;
        for (int person = 0; person < family.count; person++) {
            int left = longestLeft(person);
            if (left > most) {
                most = left;
                longest = person;
            }
        }
        return longest;
    }

    public int daysWorn() {
        return wornSoFar;
    }

    // ---- what would be

    public int wouldMourn(int person) throws IndexOutOfBoundsException, IllegalStateException {
        needPerson(person);
        needAlive(person);
        family.findDegrees(person);
        int mourners = 0;
        for (int other = 0; other < family.count; other++) {
            if (wouldBegin(other)) {
                mourners++;
            }
        }
        return mourners;
    }

    public int wouldWear(int person, int dies)
            throws IndexOutOfBoundsException, IllegalArgumentException, IllegalStateException {
        needPerson(person);
        needPerson(dies);
        needTwo(person, dies);
        needAlive(person);
        needAlive(dies);
        family.findDegrees(dies);
        int colourForLoss = codes.colourOn(Codes.NOW, family.degrees[person], 0);
        return Math.max(colourAfter(person, 0), colourForLoss);
    }

    public int heaviestLoss() {
        Arrays.fill(loss, 0);
        for (int mourner = 0; mourner < family.count; mourner++) {
            if (family.alive[mourner]) {
                addLossesOf(mourner);
            }
        }
        int heaviest = NOBODY;
        for (int person = 0; person < family.count; person++) {
            if (family.alive[person] && (heaviest == NOBODY || loss[person] > loss[heaviest])) {
                heaviest = person;
            }
        }
        return heaviest;
    }

    public double meanDaysLeft() {
        int alive = family.livingCount();
        if (alive == 0) {
            return 0.0;
        }
        int sum = 0;
        for (int person = 0; person < family.count; person++) {
            sum += longestLeft(person);
        }
        return (double) sum / (double) alive;
    }

    public long digest() {
        long d = 1931;
        d = d * 31 + people();
        d = d * 31 + living();
        d = d * 31 + day();
        d = d * 31 + strictest();
        d = d * 31 + longestMourner();
        d = d * 31 + daysWorn();
        d = digestCode(d);
        for (int person = 0; person < family.count; person++) {
            d = digestPerson(d, person);
        }
        return d;
    }

    private long digestCode(long before) {
        long d = before;
        for (int degree = 1; degree <= MOST_DEGREE; degree++) {
            for (int stage = 0; stage < STAGES; stage++) {
                d = d * 31 + stageColour(degree, stage);
                d = d * 31 + stageDays(degree, stage);
            }
        }
        return d;
    }

    private long digestPerson(long before, int person) {
        long d = before;
        d = d * 31 + (isAlive(person) ? 1 : 0);
        d = d * 31 + parentOf(person);
        d = d * 31 + marriedTo(person);
        d = d * 31 + colourOf(person);
        d = d * 31 + mourningsOf(person);
        d = d * 31 + daysLeft(person);
        d = d * 31 + daysUntilLighter(person);
        family.findDegrees(person);
        for (int degree = 1; degree <= MOST_DEGREE; degree++) {
            d = d * 31 + family.countKin(degree);
        }
        return d;
    }

    // ---- what a call needs

    private void needPerson(int person) {
        if (person < 0 || person >= family.count) {
            throw new IndexOutOfBoundsException("there is no such person");
        }
    }

    private void needRoom() {
        if (family.isFull()) {
            throw new IllegalStateException("there are 16 people");
        }
    }

    private void needTwo(int a, int b) {
        if (a == b) {
            throw new IllegalArgumentException("both are the same person");
        }
    }

    private void needAlive(int person) {
        if (!family.alive[person]) {
            throw new IllegalStateException("this person is dead");
        }
    }

    private void needDegree(int degree) {
        if (degree < 1 || degree > MOST_DEGREE) {
            throw new IndexOutOfBoundsException("a degree is 1 to 4");
        }
    }

    private void needStage(int degree, int stage) {
        needDegree(degree);
        if (stage < 0 || stage >= STAGES) {
            throw new IndexOutOfBoundsException("a stage is 0 to 2");
        }
    }

    // ---- mournings

    private static int pair(int person, int dead) {
        return person * MOST_PEOPLE + dead;
    }

    private void endMourningsOf(int person) {
        for (int dead = 0; dead < MOST_PEOPLE; dead++) {
            mournedBy[pair(person, dead)] = 0;
        }
    }

    private int beginMourningsFor(int dead) {
        family.findDegrees(dead);
        int mourners = 0;
        for (int person = 0; person < family.count; person++) {
            if (wouldBegin(person)) {
                mournedBy[pair(person, dead)] = family.degrees[person];
                mourners++;
            }
        }
        return mourners;
    }

    /** Whether a person mourns the one from whom the degrees were found last, dying today. */
    private boolean wouldBegin(int person) {
        return family.alive[person] && codes.daysOfAll(Codes.NOW, family.degrees[person]) > 0;
    }

    private int leftFor(int person, int dead) {
        int lasts = codes.daysOfAll(dead, mournedBy[pair(person, dead)]);
        return Math.max(0, lasts - (today - deathDay[dead]));
    }

    private int longestLeft(int person) {
        int longest = 0;
        for (int dead = 0; dead < family.count; dead++) {
            longest = Math.max(longest, leftFor(person, dead));
        }
        return longest;
    }

    private int countMournings(int person) {
        int mournings = 0;
        for (int dead = 0; dead < family.count; dead++) {
            if (leftFor(person, dead) > 0) {
                mournings++;
            }
        }
        return mournings;
    }

    private int colourAfter(int person, int days) {
        int colour = NO_COLOUR;
        for (int dead = 0; dead < family.count; dead++) {
            int gone = today - deathDay[dead] + days;
            colour = Math.max(colour, codes.colourOn(dead, mournedBy[pair(person, dead)], gone));
        }
        return colour;
    }

    private int countWearing(int colour) {
        int wearers = 0;
        for (int person = 0; person < family.count; person++) {
            if (family.alive[person] && colourAfter(person, 0) == colour) {
                wearers++;
            }
        }
        return wearers;
    }

    // ---- the days ahead of one person

    /** Lays out the colours of a person from today on; behind the row's end nobody wears one. */
    private void paintAhead(int person) {
        Arrays.fill(ahead, NO_COLOUR);
        for (int dead = 0; dead < family.count; dead++) {
            int degree = mournedBy[pair(person, dead)];
            int gone = today - deathDay[dead];
            int left = Math.min(leftFor(person, dead), ahead.length);
            for (int day = 0; day < left; day++) {
                ahead[day] = Math.max(ahead[day], codes.colourOn(dead, degree, gone + day));
            }
        }
    }

    private int wornAhead(int days) {
        int worn = 0;
        for (int day = 0; day < days && day < ahead.length; day++) {
            if (ahead[day] != NO_COLOUR) {
                worn++;
            }
        }
        return worn;
    }

    private int countAhead(int colour) {
        int count = 0;
        for (int day = 0; day < ahead.length; day++) {
            if (ahead[day] == colour) {
                count++;
            }
        }
        return count;
    }

    private int firstLighterDay() {
        if (ahead[0] == NO_COLOUR) {
            return -1;
        }
        for (int day = 1; day < ahead.length; day++) {
            if (ahead[day] < ahead[0]) {
                return day;
            }
        }
        return ahead.length;
    }

    // ---- losses

    /** Adds, to the loss of everybody else, the days on which the mourner would wear a colour then. */
    private void addLossesOf(int mourner) {
        paintAhead(mourner);
        for (int degree = 0; degree < wornIfLost.length; degree++) {
            wornIfLost[degree] = wornAheadWith(degree);
        }
        family.findDegrees(mourner);
        for (int person = 0; person < family.count; person++) {
            if (person != mourner) {
                loss[person] += wornIfLost[family.degrees[person]];
            }
        }
    }

    private int wornAheadWith(int degree) {
        int worn = 0;
        for (int day = 0; day < ahead.length; day++) {
            if (ahead[day] != NO_COLOUR || codes.colourOn(Codes.NOW, degree, day) != NO_COLOUR) {
                worn++;
            }
        }
        return worn;
    }

    /** Who there is, and how they are akin. */
    private static final class Family {
        final int[] parent = new int[MOST_PEOPLE];
        final int[] spouse = new int[MOST_PEOPLE];
        final boolean[] alive = new boolean[MOST_PEOPLE];
        int count;

        /** The degree of each person to the one from whom findDegrees started last; 0 if not kin. */
        final int[] degrees = new int[MOST_PEOPLE];

        boolean isFull() {
            return count >= MOST_PEOPLE;
        }

        int add(int parentOfNew) {
            int person = count;
            parent[person] = parentOfNew;
            spouse[person] = NOBODY;
            alive[person] = true;
            count++;
            return person;
        }

        int livingCount() {
            int living = 0;
            for (int person = 0; person < count; person++) {
                if (alive[person]) {
                    living++;
                }
            }
            return living;
        }

        boolean hasLivingSpouse(int person) {
            return spouse[person] != NOBODY && alive[spouse[person]];
        }

        void wed(int a, int b) {
            leaveSpouse(a);
            leaveSpouse(b);
            spouse[a] = b;
            spouse[b] = a;
        }

        private void leaveSpouse(int person) {
            if (spouse[person] != NOBODY) {
                spouse[spouse[person]] = NOBODY;
            }
        }

        void findDegrees(int start) {
            Arrays.fill(degrees, 0);
            reachFrom(start, start, 1);
            for (int degree = 2; degree <= MOST_DEGREE; degree++) {
                for (int from = 0; from < count; from++) {
                    if (degrees[from] == degree - 1) {
                        reachFrom(start, from, degree);
                    }
                }
            }
        }

        private void reachFrom(int start, int from, int degree) {
            for (int to = 0; to < count; to++) {
                if (to != start && degrees[to] == 0 && isStep(from, to)) {
                    degrees[to] = degree;
                }
            }
        }

        private boolean isStep(int from, int to) {
            return parent[from] == to || parent[to] == from || spouse[from] == to;
        }

        int countKin(int degree) {
            int kin = 0;
            for (int other = 0; other < count; other++) {
                if (alive[other] && degrees[other] == degree) {
                    kin++;
                }
            }
            return kin;
        }
    }

    /** The code of now and, for each dead person, the code as it was on the day of the death. */
    private static final class Codes {
        static final int NOW = MOST_PEOPLE;
        private static final int STAGES_OF_CODE = MOST_DEGREE * STAGES;

        final int[] colours = new int[(MOST_PEOPLE + 1) * STAGES_OF_CODE];
        final int[] days = new int[(MOST_PEOPLE + 1) * STAGES_OF_CODE];

        static int place(int code, int degree, int stage) {
            return code * STAGES_OF_CODE + (degree - 1) * STAGES + stage;
        }

        void keepFor(int dead) {
            int from = place(NOW, 1, 0);
            int to = place(dead, 1, 0);
            System.arraycopy(colours, from, colours, to, STAGES_OF_CODE);
            System.arraycopy(days, from, days, to, STAGES_OF_CODE);
        }

        /** All days of a degree; the degree 0, of those who are not kin, has none. */
        int daysOfAll(int code, int degree) {
            if (degree < 1 || degree > MOST_DEGREE) {
                return 0;
            }
            int sum = 0;
            for (int stage = 0; stage < STAGES; stage++) {
                sum += days[place(code, degree, stage)];
            }
            return sum;
        }

        /** The colour when so many days have gone since the day of the death. */
        int colourOn(int code, int degree, int gone) {
            if (degree < 1 || degree > MOST_DEGREE || gone < 0) {
                return NO_COLOUR;
            }
            int end = 0;
            for (int stage = 0; stage < STAGES; stage++) {
                int place = place(code, degree, stage);
                end += days[place];
                if (gone < end) {
                    return colours[place];
                }
            }
            return NO_COLOUR;
        }
    }
}
