import java.util.ArrayList;
import java.util.List;

/**
 * The document told a second time, as plainly as can be and with no thought of cost: each mourning
 * is written out day by day, and what a death would bring is found by letting a copy of everything
 * go through it. ModelTest holds MourningRibbons against it.
 */
public final class SlowRibbons {
    private static final int FAR = 1000;

    private static final class Person {
        int parent = -1;
        int spouse = -1;
        boolean alive = true;
    }

    private static final class Mourning {
        int mourner;
        int dead;
        int firstDay;
        List<Integer> colours = new ArrayList<>();

        int colourOn(int someDay) {
            int at = someDay - firstDay;
            return at >= 0 && at < colours.size() ? colours.get(at) : 0;
        }

        int leftOn(int someDay) {
            return Math.max(0, firstDay + colours.size() - someDay);
        }
    }

    private final List<Person> all = new ArrayList<>();
    private final List<Mourning> mournings = new ArrayList<>();
    private final int[][] colour = new int[5][3];
    private final int[][] length = new int[5][3];
    private int now = 0;
    private int worn = 0;

    public int addPerson() {
        state(all.size() < 16);
        all.add(new Person());
        return all.size() - 1;
    }

    public int addChild(int parent) {
        person(parent);
        state(all.get(parent).alive && all.size() < 16);
        Person child = new Person();
        child.parent = parent;
        all.add(child);
        return all.size() - 1;
    }

    public int marry(int a, int b) {
        person(a);
        person(b);
        argument(a != b);
        state(all.get(a).alive && all.get(b).alive);
        state(!hasLivingSpouse(a) && !hasLivingSpouse(b));
        int ahead = degreeOf(a, b);
        for (Person p : all) {
            if (p.spouse == a || p.spouse == b) {
                p.spouse = -1;
            }
        }
        all.get(a).spouse = b;
        all.get(b).spouse = a;
        return ahead;
    }

    private boolean hasLivingSpouse(int p) {
        int spouse = all.get(p).spouse;
        return spouse >= 0 && all.get(spouse).alive;
    }

    public int setStage(int degree, int stage, int newColour, int days) {
        index(degree >= 1 && degree <= 4 && stage >= 0 && stage <= 2);
        argument(newColour >= 0 && newColour <= 5 && days >= 0 && days <= 60);
        colour[degree][stage] = newColour;
        length[degree][stage] = days;
        return length[degree][0] + length[degree][1] + length[degree][2];
    }

    public int die(int dead) {
        person(dead);
        state(all.get(dead).alive);
        all.get(dead).alive = false;
        mournings.removeIf(m -> m.mourner == dead);
        int count = 0;
        int[] steps = fewestSteps()[dead];
        for (int p = 0; p < all.size(); p++) {
            int degree = asDegree(steps[p]);
            if (!all.get(p).alive || degree == 0) {
                continue;
            }
            Mourning m = new Mourning();
            m.mourner = p;
            m.dead = dead;
            m.firstDay = now;
            for (int stage = 0; stage < 3; stage++) {
                for (int i = 0; i < length[degree][stage]; i++) {
                    m.colours.add(colour[degree][stage]);
                }
            }
            if (!m.colours.isEmpty()) {
                mournings.add(m);
                count++;
            }
        }
        return count;
    }

    public int release(int p, int dead) {
        person(p);
        person(dead);
        int left = daysLeftFor(p, dead);
        state(left > 0);
        mournings.removeIf(m -> m.mourner == p && m.dead == dead);
        return left;
    }

    public int pass(int days) {
        argument(days >= 1 && days <= 200);
        for (int i = 0; i < days; i++) {
            for (int p = 0; p < all.size(); p++) {
                worn += colourOf(p) > 0 ? 1 : 0;
            }
            now++;
        }
        int wearers = 0;
        for (int p = 0; p < all.size(); p++) {
            wearers += colourOf(p) > 0 ? 1 : 0;
        }
        return wearers;
    }

    public int people() {
        return all.size();
    }

    public int living() {
        int count = 0;
        for (Person p : all) {
            count += p.alive ? 1 : 0;
        }
        return count;
    }

    public boolean isAlive(int p) {
        person(p);
        return all.get(p).alive;
    }

    public int parentOf(int p) {
        person(p);
        return all.get(p).parent;
    }

    public int marriedTo(int p) {
        person(p);
        return all.get(p).spouse;
    }

    public int degreeOf(int a, int b) {
        person(a);
        person(b);
        return asDegree(fewestSteps()[a][b]);
    }

    private static int asDegree(int steps) {
        return steps <= 4 ? steps : 0;
    }

    private int[][] fewestSteps() {
        int n = all.size();
        int[][] steps = new int[n][n];
        for (int i = 0; i < n; i++) {
            for (int j = 0; j < n; j++) {
                Person from = all.get(i);
                boolean near = from.parent == j || all.get(j).parent == i || from.spouse == j;
                steps[i][j] = i == j ? 0 : near ? 1 : FAR;
            }
        }
        for (int k = 0; k < n; k++) {
            for (int i = 0; i < n; i++) {
                for (int j = 0; j < n; j++) {
                    steps[i][j] = Math.min(steps[i][j], steps[i][k] + steps[k][j]);
                }
            }
        }
        return steps;
    }

    public int kinOf(int p, int degree) {
        person(p);
        index(degree >= 1 && degree <= 4);
        int count = 0;
        int[] steps = fewestSteps()[p];
        for (int other = 0; other < all.size(); other++) {
            count += other != p && all.get(other).alive && steps[other] == degree ? 1 : 0;
        }
        return count;
    }

    public int stageColour(int degree, int stage) {
        index(degree >= 1 && degree <= 4 && stage >= 0 && stage <= 2);
        return colour[degree][stage];
    }

    public int stageDays(int degree, int stage) {
        index(degree >= 1 && degree <= 4 && stage >= 0 && stage <= 2);
        return length[degree][stage];
    }

    public int day() {
        return now;
    }

    public int colourOf(int p) {
        person(p);
        return colourOnDay(p, now);
    }

    private int colourOnDay(int p, int someDay) {
        int most = 0;
        for (Mourning m : mournings) {
            most = m.mourner == p ? Math.max(most, m.colourOn(someDay)) : most;
        }
        return most;
    }

    public int colourIn(int p, int days) {
        person(p);
        argument(days >= 0 && days <= 200);
        return colourOnDay(p, now + days);
    }

    public int mourningsOf(int p) {
        person(p);
        int count = 0;
        for (Mourning m : mournings) {
            count += m.mourner == p && m.leftOn(now) > 0 ? 1 : 0;
        }
        return count;
    }

    public int daysLeftFor(int p, int dead) {
        person(p);
        person(dead);
        for (Mourning m : mournings) {
            if (m.mourner == p && m.dead == dead) {
                return m.leftOn(now);
            }
        }
        return 0;
    }

    public int daysLeft(int p) {
        person(p);
        int most = 0;
        for (int dead = 0; dead < all.size(); dead++) {
            most = Math.max(most, daysLeftFor(p, dead));
        }
        return most;
    }

    public int daysUntilLighter(int p) {
        person(p);
        int of = colourOf(p);
        if (of == 0) {
            return -1;
        }
        int days = 1;
        while (colourOnDay(p, now + days) >= of) {
            days++;
        }
        return days;
    }

    public int daysIn(int p, int someColour) {
        person(p);
        index(someColour >= 1 && someColour <= 5);
        int count = 0;
        for (int d = 0; d < FAR; d++) {
            count += colourOnDay(p, now + d) == someColour ? 1 : 0;
        }
        return count;
    }

    public int wearing(int someColour) {
        index(someColour >= 0 && someColour <= 5);
        int count = 0;
        for (int p = 0; p < all.size(); p++) {
            count += all.get(p).alive && colourOf(p) == someColour ? 1 : 0;
        }
        return count;
    }

    public int strictest() {
        int most = 0;
        for (int p = 0; p < all.size(); p++) {
            most = Math.max(most, colourOf(p));
        }
        return most;
    }

    public int longestMourner() {
        int best = -1;
        for (int p = all.size() - 1; p >= 0; p--) {
            if (daysLeft(p) > 0 && (best < 0 || daysLeft(p) >= daysLeft(best))) {
                best = p;
            }
        }
        return best;
    }

    public int daysWorn() {
        return worn;
    }

    public int wouldMourn(int p) {
        person(p);
        state(all.get(p).alive);
        return copy().die(p);
    }

    public int wouldWear(int p, int dies) {
        person(p);
        person(dies);
        argument(p != dies);
        state(all.get(p).alive && all.get(dies).alive);
        SlowRibbons then = copy();
        then.die(dies);
        return then.colourOf(p);
    }

    public int heaviestLoss() {
        int best = -1;
        int most = -1;
        for (int p = 0; p < all.size(); p++) {
            if (all.get(p).alive) {
                SlowRibbons then = copy();
                then.die(p);
                int days = then.daysInAnyColour();
                if (days > most) {
                    most = days;
                    best = p;
                }
            }
        }
        return best;
    }

    private int daysInAnyColour() {
        int count = 0;
        for (int p = 0; p < all.size(); p++) {
            for (int d = 0; d <= 200; d++) {
                count += colourOnDay(p, now + d) > 0 ? 1 : 0;
            }
        }
        return count;
    }

    public double meanDaysLeft() {
        double sum = 0;
        for (int p = 0; p < all.size(); p++) {
            sum += all.get(p).alive ? daysLeft(p) : 0;
        }
        return living() == 0 ? 0 : sum / living();
    }

    public long digest() {
        List<Integer> numbers = new ArrayList<>(
                List.of(people(), living(), day(), strictest(), longestMourner(), daysWorn()));
        for (int degree = 1; degree <= 4; degree++) {
            for (int stage = 0; stage < 3; stage++) {
                numbers.addAll(List.of(stageColour(degree, stage), stageDays(degree, stage)));
            }
        }
        for (int p = 0; p < all.size(); p++) {
            numbers.addAll(List.of(isAlive(p) ? 1 : 0, parentOf(p), marriedTo(p), colourOf(p),
                    mourningsOf(p), daysLeft(p), daysUntilLighter(p)));
            for (int degree = 1; degree <= 4; degree++) {
                numbers.add(kinOf(p, degree));
            }
        }
        long d = 1931;
        for (int x : numbers) {
            d = d * 31 + x;
        }
        return d;
    }

    private SlowRibbons copy() {
        SlowRibbons twin = new SlowRibbons();
        for (Person p : all) {
            Person q = new Person();
            q.parent = p.parent;
            q.spouse = p.spouse;
            q.alive = p.alive;
            twin.all.add(q);
        }
        twin.mournings.addAll(mournings);
        for (int degree = 0; degree < 5; degree++) {
            twin.colour[degree] = colour[degree].clone();
            twin.length[degree] = length[degree].clone();
        }
        twin.now = now;
        return twin;
    }

    private void person(int p) {
        index(p >= 0 && p < all.size());
    }

    private static void index(boolean fits) {
        if (!fits) {
            throw new IndexOutOfBoundsException();
        }
    }

    private static void argument(boolean fits) {
        if (!fits) {
            throw new IllegalArgumentException();
        }
    }

    private static void state(boolean fits) {
        if (!fits) {
            throw new IllegalStateException();
        }
    }
}
