import java.util.ArrayList;
import java.util.List;

/**
 * What the calls tell must agree with one another: long runs (the same each time) are asked what the document
 * says of any league in any state. No second program is needed for that; a run is played again where two
 * ways are to end alike.
 */
final class AgreementTest extends TestKit {
    private static final int RUNS = 24;
    private static final int STEPS = 120;
    private static final int CELLS = 120;

    private interface Step {
        void on(SandcastleLeague league);
    }

    private final List<Step> steps = new ArrayList<>();
    private final SandcastleLeague league = new SandcastleLeague();
    private final int[] tides = FIRST_TIDES.clone();
    private final String run;
    // Without storms the teams' castles stand, and slide.
    private final int highestTide;
    private long seed;

    private AgreementTest(int run) {
        this.run = "run " + run + ", ";
        seed = run * 15485863L + 11;
        highestTide = run % 3 == 0 ? 30 : run % 3 == 1 ? 11 : 4;
    }

    public static void main(String[] args) {
        for (int run = 0; run < RUNS; run++) {
            new AgreementTest(run).playAll(1 + run % 4);
        }
        Check.finish("AgreementTest");
    }

    private void playAll(int teams) {
        for (int t = 0; t < teams; t++) {
            play(SandcastleLeague::addTeam);
        }
        for (int s = 0; s < STEPS; s++) {
            deed();
            if (s % 8 == 7) {
                hours();
            }
            if (s % 20 == 0) {
                changeTide();
            }
            if (s % 40 == 39) {
                adviceIsBest();
                endOfRound();
            }
            allIsSummedUp();
        }
    }

    private int next(int below) {
        seed = seed * 6364136223846793005L + 1442695040888963407L;
        return (int) ((seed >>> 33) % below);
    }

    private void play(Step step) {
        steps.add(step);
        step.on(league);
    }

    /** Another league to which the same was done. */
    private SandcastleLeague again() {
        SandcastleLeague other = new SandcastleLeague();
        for (Step step : steps) {
            step.on(other);
        }
        return other;
    }

    private void due(String what, long want, long got) {
        Check.due(run + "step " + steps.size() + ": " + what, want, got);
    }

    private int tell(int cell, int what) {
        return league.cell(cell % 12, cell / 12, what);
    }

    private int[] reaches() {
        int[] all = new int[CELLS];
        for (int cell = 0; cell < CELLS; cell++) {
            all[cell] = league.reach(cell % 12, cell / 12);
        }
        return all;
    }

    private static List<Integer> beside(int cell) {
        List<Integer> all = new ArrayList<>();
        for (int other = 0; other < CELLS; other++) {
            if (Math.abs(other % 12 - cell % 12) + Math.abs(other / 12 - cell / 12) == 1) {
                all.add(other);
            }
        }
        return all;
    }

    // ---- what is done

    private void deed() {
        int team = next(league.count(1));
        int x = 3 * team + next(3);
        int y = next(3) == 0 ? next(10) : 7 + next(3);
        int n = 1 + next(5);
        int kind = next(6);
        int strength = league.team(team, 1);
        int others = tellsOfOthers(team);
        long thrown = Check.thrownBy(() -> deedOf(league, kind, team, x, y, n));
        if (thrown == 0) {
            steps.add(one -> deedOf(one, kind, team, x, y, n));
        }
        due("a deed takes 1 of the strength, or throws", strength - (thrown == 0 ? 1 : 0), league.team(team, 1));
        due("a deed is the team's alone", others, tellsOfOthers(team));
    }

    private static int deedOf(SandcastleLeague one, int kind, int team, int x, int y, int n) {
        if (kind < 2) {
            return one.dig(team, x, y, n);
        }
        if (kind < 4) {
            return one.pile(team, x, y, n);
        }
        return kind == 4 ? one.pack(team, x, y) : one.plant(team, x, y);
    }

    private int tellsOfOthers(int team) {
        int sum = 0;
        for (int t = 0; t < league.count(1); t++) {
            for (int what = 0; t != team && what <= 7; what++) {
                sum = sum * 31 + league.team(t, what);
            }
        }
        return sum;
    }

    private void changeTide() {
        int hour = next(12);
        int level = next(highestTide + 1);
        due("the level before", tides[hour], league.setTide(hour, level));
        tides[hour] = level;
        steps.add(one -> one.setTide(hour, level));
    }

    // ---- hours

    private void hours() {
        waterIsWhereTheTideReaches();
        nothingIsTooSteep();
        twoWaysAreOne();
        itComesAsForeseen(1 + next(6));
        nothingIsTooSteep();
    }

    private void waterIsWhereTheTideReaches() {
        int level = tides[league.count(0) % 12];
        int flood = league.flood(level);
        int[] reaches = reaches();
        play(one -> one.pass(1));
        due("water of the hour", flood, league.count(2));
        for (int cell = 0; cell < CELLS; cell++) {
            boolean reached = reaches[cell] <= level;
            due("water of the cell " + cell, reached ? 1 : 0, tell(cell, 3));
            if (reached) {
                due("a stick in the water", 0, tell(cell, 4));
            }
        }
        for (int t = 0; t < league.count(1); t++) {
            due("strength after an hour", 20, league.team(t, 1));
        }
    }

    /** As no run is known whose slides are cut off at 40 rounds, none is left to come. */
    private void nothingIsTooSteep() {
        for (int cell = 0; cell < CELLS; cell++) {
            int lowest = Integer.MAX_VALUE;
            for (int other : beside(cell)) {
                lowest = Math.min(lowest, tell(other, 2));
            }
            due("cell " + cell + " is too steep", 0, tell(cell, 2) > lowest + 4 + tell(cell, 1) ? 1 : 0);
        }
    }

    private void twoWaysAreOne() {
        int first = 1 + next(24);
        int then = 1 + next(24);
        SandcastleLeague atOnce = again();
        SandcastleLeague inTwo = again();
        int fallen = inTwo.pass(first) + inTwo.pass(then);
        due(first + " and " + then + " hours", fallen, atOnce.pass(first + then));
        due("all after " + first + " and " + then + " hours", inTwo.digest(), atOnce.digest());
    }

    private void itComesAsForeseen(int hours) {
        int teams = league.count(1);
        int[] foreseen = new int[3 * teams];
        long before = league.digest();
        for (int i = 0; i < foreseen.length; i++) {
            foreseen[i] = league.foresee(hours, i / 3, i % 3);
        }
        due("looking ahead changes nothing", before, league.digest());
        int[] points = new int[teams];
        for (int t = 0; t < teams; t++) {
            points[t] = league.team(t, 2);
        }
        int fallen = league.count(7);
        int standing = league.count(6);
        int hour = league.count(0);
        int fell = league.pass(hours);
        steps.add(one -> one.pass(hours));
        for (int t = 0; t < teams; t++) {
            due("points foreseen", foreseen[3 * t], league.team(t, 2) - points[t]);
            due("sticks foreseen", foreseen[3 * t + 1], league.team(t, 3));
            due("sand foreseen", foreseen[3 * t + 2], league.team(t, 4));
        }
        due("fallen sticks", fallen + fell, league.count(7));
        due("sticks that stand", standing - fell, league.count(6));
        due("the hour", hour + hours, league.count(0));
    }

    // ---- advice

    private void adviceIsBest() {
        int team = next(league.count(1));
        int hours = 1 + next(12);
        if (league.team(team, 1) == 0 || league.team(team, 3) == 3) {
            return;
        }
        int without = league.foresee(hours, team, 0);
        int best = -1;
        int most = -1;
        for (int cell = 0; cell < CELLS; cell++) {
            SandcastleLeague tried = again();
            int x = cell % 12;
            int y = cell / 12;
            if (Check.thrownBy(() -> tried.plant(team, x, y)) == 0) {
                int more = tried.foresee(hours, team, 0) - without;
                best = more > most ? cell : best;
                most = Math.max(more, most);
            }
        }
        due("advise(" + team + ", " + hours + ")", best, league.advise(team, hours));
    }

    // ---- rounds of the league

    private void endOfRound() {
        int teams = league.count(1);
        int[] leaguePoints = new int[teams];
        for (int t = 0; t < teams; t++) {
            leaguePoints[t] = league.team(t, 7);
            for (int other = 0; other < teams; other++) {
                leaguePoints[t] += league.team(other, 2) < league.team(t, 2) ? 1 : 0;
            }
        }
        int hour = league.count(0);
        int ended = league.count(8);
        play(SandcastleLeague::endRound);
        counts(run + "a new round", league, hour, teams, 0, 480, 0, 0, 0, 0, ended + 1);
        for (int t = 0; t < teams; t++) {
            teamIs(run + "a new round", league, t, 0, 20, 0, 0, 120, 22, 0, leaguePoints[t]);
        }
        beachIsAsAtFirst(league);
    }

    // ---- what is told

    private void allIsSummedUp() {
        int heights = 0;
        int[] sums = new int[6];
        int[] reaches = reaches();
        int[] byLevel = new int[61];
        for (int cell = 0; cell < CELLS; cell++) {
            heights += tell(cell, 2);
            for (int what = 0; what <= 5; what++) {
                sums[what] += tell(cell, what);
            }
            due("height of " + cell, 2 * (cell / 12) + tell(cell, 0), tell(cell, 2));
            due("reach of " + cell, reachBySides(cell, reaches), reaches[cell]);
            byLevel[reaches[cell]]++;
        }
        due("all sand", sums[0], league.count(3));
        due("all water", sums[3], league.count(2));
        due("all sticks", sums[4], league.count(6));
        Check.dueDouble(run + "mean", heights / 120.0, league.mean());
        due("digest", digestOf(league, tides), league.digest());
        int cells = 0;
        for (int level = 0; level <= 30; level++) {
            cells += byLevel[level];
            due("flood(" + level + ")", cells, league.flood(level));
        }
        sandIsNeitherMadeNorLost();
        teamsAddUp();
        leadersAreInOrder();
    }

    /** The water comes over the cell from its lowest way, which is that of a cell beside it, or the sea. */
    private int reachBySides(int cell, int[] reaches) {
        int way = cell < 12 ? 0 : 60;
        for (int other : beside(cell)) {
            way = Math.min(way, reaches[other]);
        }
        return Math.max(way, tell(cell, 2) + 1);
    }

    private void sandIsNeitherMadeNorLost() {
        int all = league.count(3) + league.count(4);
        for (int t = 0; t < league.count(1); t++) {
            all += league.team(t, 0);
        }
        due("sand of the beach, the sea and the buckets", 480, all);
    }

    private void teamsAddUp() {
        if (league.count(1) == 4) {
            int sand = 0;
            int water = 0;
            int sticks = 0;
            for (int t = 0; t < 4; t++) {
                sand += league.team(t, 4);
                water += league.team(t, 6);
                sticks += league.team(t, 3);
            }
            due("the sand of all areas", league.count(3), sand);
            due("the water of all areas", league.count(2), water);
            due("the sticks of all teams", league.count(6), sticks);
        }
    }

    private void leadersAreInOrder() {
        boolean[] placed = new boolean[4];
        for (int place = 0; place < league.count(1); place++) {
            int team = league.leader(place);
            due("team " + team + " has no other place", 0, placed[team] ? 1 : 0);
            placed[team] = true;
            if (place > 0) {
                int ahead = league.leader(place - 1);
                int by = Integer.compare(league.team(ahead, 7), league.team(team, 7));
                by = by != 0 ? by : Integer.compare(league.team(ahead, 2), league.team(team, 2));
                by = by != 0 ? by : Integer.compare(team, ahead);
                due("team " + ahead + " is ahead of " + team, 1, by);
            }
        }
    }
}
