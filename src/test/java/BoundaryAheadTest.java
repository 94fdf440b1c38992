/** The boundary cases of the promises 14 to 17: what the water will reach, and what is to come. */
final class BoundaryAheadTest extends TestKit {
    private BoundaryAheadTest() {
    }

    public static void main(String[] args) {
        flood();
        reach();
        foresee();
        advise();
        Check.finish("BoundaryAheadTest");
    }

    // ---- promise 14

    private static void flood() {
        Check.sentence("Promise 14", "Returns how many cells would be under water with it",
            BoundaryAheadTest::floodByLevel);
        Check.sentence("Promise 14", ".. would be under water with it now", BoundaryAheadTest::floodNow);
        Check.sentence("Promise 14", ".. would be ..", BoundaryAheadTest::floodChangesNothing);
        Check.sentence("Promise 14", "Throws IllegalArgumentException if level is not 0 to 30",
            BoundaryAheadTest::noLevel);
    }

    private static void floodByLevel() {
        SandcastleLeague league = withTeams(1);
        for (int level = 0; level <= 30; level++) {
            int rows = Math.max(0, Math.min(10, (level - 3) / 2));
            Check.due("flood(" + level + ")", 12 * rows, league.flood(level));
        }
        SandcastleLeague low = withTeams(1);
        low.dig(0, 0, 0, 4);
        Check.due("flood(0) at the height 0", 0, low.flood(0));
        Check.due("flood(1) at the height 0", 1, low.flood(1));

        for (int height = 29; height <= 31; height++) {
            SandcastleLeague high = withTeams(1);
            fillBucket(high, 0, 16);
            pile(high, 0, 0, 9, height - 22);
            Check.due("the height", height, high.cell(0, 9, 2));
            Check.due("flood(30) at the height " + height, height < 30 ? 120 : 119, high.flood(30));
        }
    }

    private static void floodNow() {
        SandcastleLeague league = withTeams(1);
        league.dig(0, 1, 0, 2);
        Check.due("after a dig", 1, league.flood(4));
        league.pile(0, 1, 0, 1);
        Check.due("after a pile", 1, league.flood(4));
        league.pile(0, 1, 0, 1);
        Check.due("after another pile", 0, league.flood(4));
        passAt(league, 7);
        Check.due("under water", 24, league.count(2));
        // The heights 4 and 6 are 2 and 5 now; what is under water is no matter.
        Check.due("flood(0)", 0, league.flood(0));
        Check.due("flood(2)", 0, league.flood(2));
        Check.due("flood(3)", 12, league.flood(3));
        Check.due("flood(5)", 12, league.flood(5));
        Check.due("flood(6)", 24, league.flood(6));
    }

    private static void floodChangesNothing() {
        SandcastleLeague league = withTeams(1);
        league.plant(0, 0, 0);
        passAt(league, 4);
        long before = league.digest();
        Check.due("flood(30)", 120, league.flood(30));
        Check.due("digest", before, league.digest());
        Check.due("flood(0)", 0, league.flood(0));
        Check.due("digest", before, league.digest());
        Check.due("sticks that fell", 0, passAt(league, 4));
    }

    private static void noLevel() {
        SandcastleLeague league = withTeams(1);
        for (int level : new int[] {-1, 31, 60, MIN, MAX}) {
            Check.dueThrow("flood(" + level + ")", league, Check.IAE, () -> league.flood(level));
        }
        Check.due("flood(0)", 0, league.flood(0));
        Check.due("flood(30)", 120, league.flood(30));
    }

    // ---- promise 15

    private static void reach() {
        Check.sentence("Promise 15", "Returns the least level .. with which the cell would be under water",
            BoundaryAheadTest::leastLevel);
        Check.sentence("Promise 15", "0 to 60", BoundaryAheadTest::lowestAndHighest);
        Check.sentence("Promise 15", "would be under water now", BoundaryAheadTest::reachNow);
        Check.sentence("Promise 15", "Throws IndexOutOfBoundsException if there is no such cell",
            BoundaryAheadTest::noSuchCell);
    }

    private static void leastLevel() {
        SandcastleLeague league = withTeams(1);
        for (int cell = 0; cell < 120; cell++) {
            Check.due("reach of " + cell, 2 * (cell / 12) + 5, league.reach(cell % 12, cell / 12));
        }
        // A hollow at 10 behind the row 4 at 12, and its neighbours in the row 6 at 16.
        league.dig(0, 1, 5, 4);
        Check.due("a hollow", 13, league.reach(1, 5));
        Check.due("behind it", 17, league.reach(1, 6));
        // The gap at 8 in the row 4 opens it, but for the level 10.
        league.dig(0, 1, 4, 4);
        Check.due("a gap", 11, league.reach(1, 4));
        Check.due("the hollow behind the gap", 11, league.reach(1, 5));
        Check.due("under it at level 10", 36, league.flood(10));
        Check.due("at level 11", 50, league.flood(11));
    }

    private static void lowestAndHighest() {
        SandcastleLeague league = withTeams(1);
        league.dig(0, 0, 0, 4);
        Check.due("the height 0 at the sea", 1, league.reach(0, 0));
        fillBucket(league, 0, 20);
        pile(league, 0, 1, 9, 16);
        Check.due("the height 38", 39, league.reach(1, 9));
        Check.due("beside it", 23, league.reach(0, 9));

        SandcastleLeague walled = withTeams(1);
        fillBucket(walled, 0, 36);
        walled.dig(0, 0, 9, 4);
        pile(walled, 0, 1, 9, 16);
        pile(walled, 0, 0, 8, 16);
        // At 18 in the corner, behind 38 and 36.
        Check.due("the corner", 18, walled.cell(0, 9, 2));
        Check.due("behind the walls", 37, walled.reach(0, 9));
        Check.due("above what flood() takes", 120 - 3, walled.flood(30));
    }

    private static void reachNow() {
        SandcastleLeague league = withTeams(1);
        passAt(league, 7);
        long before = league.digest();
        // The heights 4 and 6 are 2 and 5 now.
        Check.due("reach at the sea", 3, league.reach(1, 0));
        Check.due("reach behind it", 6, league.reach(1, 1));
        Check.due("reach above the water", 9, league.reach(1, 2));
        Check.due("nothing is changed", before, league.digest());
        league.dig(0, 1, 0, 1);
        Check.due("after a dig", 2, league.reach(1, 0));
        league.pile(0, 1, 0, 1);
        Check.due("after a pile", 3, league.reach(1, 0));
    }

    private static void noSuchCell() {
        SandcastleLeague league = withTeams(1);
        int[][] outside = {{-1, 0}, {12, 0}, {0, -1}, {0, 10}, {-1, 9}, {12, 9}, {11, -1}, {11, 10}, {-12, 1},
            {12, -1}, {MIN, 0}, {MAX, 0}, {0, MIN}, {0, MAX}, {0, 357913942}};
        for (int[] at : outside) {
            Check.dueThrow("(" + at[0] + ", " + at[1] + ")", league, Check.IOOBE,
                () -> league.reach(at[0], at[1]));
        }
        Check.due("the first", 5, league.reach(0, 0));
        Check.due("the last", 23, league.reach(11, 9));
    }

    // ---- promise 16

    private static void foresee() {
        Check.sentence("Promise 16", "hours: how many, 1 to 48", BoundaryAheadTest::hoursForeseen);
        Check.sentence("Promise 16", "0 the points that it gets in these hours", BoundaryAheadTest::pointsForeseen);
        Check.sentence("Promise 16", "1 its sticks that stand then", BoundaryAheadTest::sticksForeseen);
        Check.sentence("Promise 16", "2 the sand of its area then", BoundaryAheadTest::sandForeseen);
        Check.sentence("Promise 16", "if no deeds are done", BoundaryAheadTest::itComesSo);
        Check.sentence("Promise 16", "(nothing is changed)", BoundaryAheadTest::foreseeChangesNothing);
        Check.sentence("Promise 16", "Throws IllegalArgumentException if hours is not 1 to 48",
            BoundaryAheadTest::noHoursForeseen);
        Check.sentence("Promise 16", "Throws IndexOutOfBoundsException if there is no such team",
            BoundaryAheadTest::noTeamForeseen);
        Check.sentence("Promise 16", "Throws IndexOutOfBoundsException if .. what is not 0 to 2",
            BoundaryAheadTest::noNumberForeseen);
    }

    private static void hoursForeseen() {
        SandcastleLeague league = dry(1);
        league.plant(0, 0, 9);
        for (int hours : new int[] {1, 2, 12, 13, 47, 48}) {
            Check.due("points in " + hours, hours, league.foresee(hours, 0, 0));
        }
    }

    private static void pointsForeseen() {
        SandcastleLeague league = dry(2);
        Check.due("without sticks", 0, league.foresee(48, 0, 0));
        league.plant(0, 0, 9);
        league.plant(0, 1, 9);
        league.plant(1, 3, 9);
        league.dig(0, 1, 0, 1);
        league.pile(0, 1, 9, 1);
        league.pass(3);
        Check.due("points until now", 9, league.team(0, 2));
        Check.due("but those until now", 3, league.foresee(1, 0, 0));
        Check.due("but those until now", 12, league.foresee(4, 0, 0));
        Check.due("of the other team", 4, league.foresee(4, 1, 0));
        league.endRound();
        Check.due("in another round", 0, league.foresee(4, 1, 0));

        SandcastleLeague falls = dry(1);
        tidesFrom(falls, 0, 0, 5);
        falls.plant(0, 0, 0);
        int[] want = {1, 2, 2, 2};
        for (int hours = 1; hours <= 4; hours++) {
            Check.due("points in " + hours, want[hours - 1], falls.foresee(hours, 0, 0));
        }
    }

    private static void sticksForeseen() {
        SandcastleLeague league = dry(2);
        tidesFrom(league, 0, 5, 0, 7);
        league.plant(0, 0, 0);
        league.plant(0, 1, 1);
        league.plant(0, 2, 9);
        league.plant(1, 3, 0);
        int[] want = {3, 2, 2, 1, 1};
        int[] wantOther = {1, 0, 0, 0, 0};
        for (int hours = 1; hours <= 5; hours++) {
            Check.due("sticks in " + hours, want[hours - 1], league.foresee(hours, 0, 1));
            Check.due("sticks of the other team in " + hours, wantOther[hours - 1], league.foresee(hours, 1, 1));
        }
        for (int lower = 1; lower <= 2; lower++) {
            SandcastleLeague dug = dry(1);
            dug.plant(0, 0, 9);
            dug.dig(0, 0, 9, lower);
            Check.due("sticks on a cell " + lower + " lower", 2 - lower, dug.foresee(1, 0, 1));
        }
    }

    private static void sandForeseen() {
        SandcastleLeague league = dry(2);
        tidesFrom(league, 0, 5, 0, 7);
        pack(league, 0, 0, 0, 2);
        league.dig(1, 3, 9, 2);
        // Level 5: 1 of each at the sea, but none of the firm one. Level 7: 2 of each there at 3,
        // 2 of the firm one at 4, and 1 of each in the row 1.
        int[] want = {120, 118, 118, 118 - 6 - 3};
        int[] wantOther = {118, 115, 115, 115 - 6 - 3};
        for (int hours = 1; hours <= 4; hours++) {
            Check.due("sand in " + hours, want[hours - 1], league.foresee(hours, 0, 2));
            Check.due("sand of the other team in " + hours, wantOther[hours - 1], league.foresee(hours, 1, 2));
        }
    }

    private static void itComesSo() {
        for (int hours : new int[] {1, 5, 12, 30, 48}) {
            SandcastleLeague league = withTeams(4);
            league.pass(9);
            league.endRound();
            for (int t = 0; t < 4; t++) {
                fillBucket(league, t, 12);
                pile(league, t, 3 * t + t % 3, 9 - t, 7);
                league.plant(t, 3 * t + t % 3, 9 - t);
                league.plant(t, 3 * t, t);
                pack(league, t, 3 * t + 2, 1, t);
            }
            league.pass(1);
            int[][] want = new int[4][3];
            int[] points = new int[4];
            for (int t = 0; t < 4; t++) {
                points[t] = league.team(t, 2);
                for (int what = 0; what < 3; what++) {
                    want[t][what] = league.foresee(hours, t, what);
                }
            }
            league.pass(hours);
            for (int t = 0; t < 4; t++) {
                Check.due("points of " + t + " in " + hours, league.team(t, 2) - points[t], want[t][0]);
                Check.due("sticks of " + t + " in " + hours, league.team(t, 3), want[t][1]);
                Check.due("sand of " + t + " in " + hours, league.team(t, 4), want[t][2]);
            }
        }
    }

    private static void foreseeChangesNothing() {
        SandcastleLeague league = withTeams(2);
        league.plant(0, 0, 0);
        league.plant(1, 3, 2);
        league.dig(0, 0, 9, 3);
        pack(league, 1, 5, 0, 3);
        league.pass(3);
        league.dig(1, 5, 0, 1);
        long before = league.digest();
        for (int what = 0; what < 3; what++) {
            league.foresee(48, 1, what);
            Check.due("digest", before, league.digest());
        }
        Check.due("the strength", 19, league.team(1, 1));
        Check.due("the hour", 3, league.count(0));
    }

    private static void noHoursForeseen() {
        SandcastleLeague league = withTeams(1);
        for (int hours : new int[] {0, 49, -1, MIN, MAX}) {
            for (int what = 0; what < 3; what++) {
                int w = what;
                Check.dueThrow("foresee(" + hours + ", 0, " + what + ")", league, Check.IAE,
                    () -> league.foresee(hours, 0, w));
            }
        }
        Check.due("1 hour", 0, league.foresee(1, 0, 0));
        Check.due("48 hours", 0, league.foresee(48, 0, 0));
    }

    private static void noTeamForeseen() {
        for (int teams = 0; teams <= 4; teams++) {
            SandcastleLeague league = withTeams(teams);
            for (int team : new int[] {-1, teams, 4, MIN, MAX}) {
                for (int what = 0; what < 3; what++) {
                    int w = what;
                    Check.dueThrow("foresee(1, " + team + ", " + what + ") of " + teams, league, Check.IOOBE,
                        () -> league.foresee(1, team, w));
                }
            }
            if (teams > 0) {
                Check.due("sand of the last team", 120, league.foresee(1, teams - 1, 2));
            }
        }
    }

    private static void noNumberForeseen() {
        SandcastleLeague league = withTeams(1);
        for (int what : new int[] {-1, 3, MIN, MAX}) {
            Check.dueThrow("foresee(1, 0, " + what + ")", league, Check.IOOBE, () -> league.foresee(1, 0, what));
        }
        Check.due("what 0", 0, league.foresee(1, 0, 0));
        Check.due("what 2", 120, league.foresee(1, 0, 2));
    }

    // ---- promise 17

    private static void advise() {
        Check.sentence("Promise 17", "Looks for the cell of a team", BoundaryAheadTest::cellOfTheTeam);
        Check.sentence("Promise 17", "without a stick", BoundaryAheadTest::withoutAStick);
        Check.sentence("Promise 17", "and not under water", BoundaryAheadTest::notUnderWater);
        Check.sentence("Promise 17", "on which one more stick would bring it the most points",
            BoundaryAheadTest::mostPoints);
        Check.sentence("Promise 17", "in so many hours, if it were planted now", BoundaryAheadTest::inSoManyHours);
        Check.sentence("Promise 17", "(strength .. do not matter)", BoundaryAheadTest::withoutStrength);
        Check.sentence("Promise 17", "(.. the 3 sticks do not matter)", BoundaryAheadTest::withThreeSticks);
        Check.sentence("Promise 17", "of several the one with the smallest number",
            BoundaryAheadTest::smallestNumber);
        Check.sentence("Promise 17", "Returns the number of the cell", BoundaryAheadTest::numberOfTheCell);
        Check.sentence("Promise 17", "-1 if there is none", BoundaryAheadTest::noCell);
        Check.sentence("Promise 17", "Throws IndexOutOfBoundsException if there is no such team",
            BoundaryAheadTest::noTeamAdvised);
        Check.sentence("Promise 17", "Throws IllegalArgumentException if hours is not 1 to 12",
            BoundaryAheadTest::noHoursAdvised);
    }

    private static void cellOfTheTeam() {
        SandcastleLeague league = dry(4);
        league.dig(1, 4, 2, 1);
        league.pile(1, 5, 3, 1);
        // The cell 41 with 5 sand would bring 2 points, but to the team 1 alone.
        int[] want = {0, 41, 6, 9};
        for (int t = 0; t < 4; t++) {
            Check.due("advise of " + t, want[t], league.advise(t, 1));
        }
    }

    private static void withoutAStick() {
        SandcastleLeague league = dry(2);
        league.dig(0, 1, 2, 1);
        league.pile(0, 2, 3, 1);
        Check.due("the best cell", 38, league.advise(0, 1));
        league.plant(0, 2, 3);
        Check.due("a stick is there", 0, league.advise(0, 1));
        league.plant(0, 0, 0);
        Check.due("a stick is there, too", 1, league.advise(0, 1));
        league.plant(1, 3, 0);
        Check.due("of the other team", 4, league.advise(1, 1));
        league.dig(0, 0, 0, 3);
        Check.due("a stick that will fall", 1, league.advise(0, 1));
        league.pass(1);
        Check.due("where it fell", 0, league.advise(0, 1));
    }

    private static void notUnderWater() {
        SandcastleLeague league = dry(1);
        passAt(league, 5);
        // The row 0 is dry again in this hour, but now it is under water.
        Check.due("beside the water", 12, league.advise(0, 1));
        league.dig(0, 0, 9, 4);
        league.pile(0, 1, 0, 4);
        // With 7 sand it would bring 2 points.
        Check.due("the best cell, but under water", 12, league.advise(0, 1));
        league.pass(1);
        Check.due("dry again", 1, league.advise(0, 1));
    }

    private static void mostPoints() {
        SandcastleLeague league = dry(1);
        shave(league, 0, 0, 3);
        int[] sand = {4, 5, 9, 10};
        int[] want = {0, 26, 26, 26};
        for (int i = 0; i < sand.length; i++) {
            pile(league, 0, 2, 2, sand[i] - league.cell(2, 2, 0));
            // Firm enough to keep its sand.
            pack(league, 0, 2, 2, 5 - league.cell(2, 2, 1));
            Check.due("with the sand " + sand[i], want[i], league.advise(0, 1));
            league.pass(1);
        }
        league.dig(0, 2, 7, 1);
        league.pile(0, 1, 6, 1);
        // 3 points with 10 sand, 2 points with 5.
        Check.due("the better of two", 26, league.advise(0, 1));
        league.dig(0, 2, 2, 4);
        pack(league, 0, 2, 2, 5);
        Check.due("both bring 2 points", 26, league.advise(0, 1));
        league.dig(0, 2, 2, 2);
        Check.due("1 point and 2 points", 73, league.advise(0, 1));

        // What other sticks bring, and have brought, is no matter.
        SandcastleLeague others = dry(4);
        for (int t = 0; t < 4; t++) {
            others.plant(t, 3 * t, 9);
        }
        others.pass(9);
        others.dig(0, 2, 9, 1);
        others.pile(0, 1, 6, 1);
        Check.due("beside sticks that stand", 73, others.advise(0, 1));
        Check.due("beside sticks that stand", 3, others.advise(1, 12));
    }

    private static void inSoManyHours() {
        SandcastleLeague league = dry(1);
        tidesFrom(league, 0, 0, 9);
        league.dig(0, 2, 9, 1);
        league.pile(0, 1, 0, 1);
        // The cell 1 brings 2 points an hour till it is under water in the third hour, with the rows 0 to 2;
        // the row 3 brings 1 point an hour.
        int[] want = {1, 1, 1, 1, 36, 36, 36, 36, 36, 36, 36, 36};
        // Four hours bring 4 points both; the one with the smaller number is told.
        for (int hours = 1; hours <= 12; hours++) {
            Check.due("advise in " + hours, want[hours - 1], league.advise(0, hours));
        }
        SandcastleLeague wraps = dry(1);
        wraps.setTide(0, 5);
        wraps.pass(11);
        wraps.endRound();
        Check.due("in the hour 11", 0, wraps.advise(0, 1));
        Check.due("in the hours 11 and 0", 12, wraps.advise(0, 2));

        SandcastleLeague lower = dry(1);
        lower.dig(0, 0, 8, 1);
        lower.dig(0, 2, 9, 2);
        pile(lower, 0, 0, 9, 3);
        // 25 over 19 will be 24: 1 lower the stick would stand, and bring 2 points.
        Check.due("on a slope", 108, lower.advise(0, 1));
        SandcastleLeague steep = dry(1);
        steep.dig(0, 0, 8, 3);
        pile(steep, 0, 0, 9, 3);
        // 25 over 17 will be 23: 2 lower it would fall.
        Check.due("on a steep slope", 0, steep.advise(0, 1));
    }

    private static void withoutStrength() {
        SandcastleLeague league = dry(1);
        tire(league, 0, 0);
        Check.due("without strength", 0, league.advise(0, 1));
        Check.due("without strength", 0, league.advise(0, 12));
        Check.due("strength", 0, league.team(0, 1));
    }

    private static void withThreeSticks() {
        SandcastleLeague league = dry(1);
        league.plant(0, 0, 0);
        league.plant(0, 1, 0);
        league.plant(0, 2, 1);
        long before = league.digest();
        Check.due("with three sticks", 2, league.advise(0, 1));
        Check.due("with three sticks", 2, league.advise(0, 12));
        Check.due("nothing is changed", before, league.digest());
    }

    private static void smallestNumber() {
        SandcastleLeague league = dry(4);
        for (int t = 0; t < 4; t++) {
            Check.due("all the same, of " + t, 3 * t, league.advise(t, 1));
        }
        league.dig(2, 7, 9, 3);
        league.pile(2, 7, 6, 1);
        league.pile(2, 8, 5, 1);
        league.pile(2, 6, 8, 1);
        Check.due("the first of three", 68, league.advise(2, 1));
    }

    private static void numberOfTheCell() {
        int[][] corners = {{0, 0}, {2, 0}, {0, 9}, {2, 9}};
        for (int team = 0; team < 4; team++) {
            for (int[] at : corners) {
                SandcastleLeague league = dry(4);
                league.dig(team, 3 * team + 1, 4, 1);
                league.pile(team, 3 * team + at[0], at[1], 1);
                Check.due("advise of " + team, 3 * team + at[0] + 12 * at[1], league.advise(team, 1));
            }
        }
    }

    private static void noCell() {
        SandcastleLeague league = dry(1);
        passAt(league, 30);
        for (int hours : new int[] {1, 12}) {
            Check.due("all is under water", -1, league.advise(0, hours));
        }
        passAt(league, 0);
        Check.due("all is dry", 0, league.advise(0, 1));

        SandcastleLeague lost = dry(1);
        lost.setTide(0, 30);
        // Wherever it were planted, it would fall: all cells bring the same, and the first is told.
        Check.due("all bring 0 points", 0, lost.advise(0, 1));
        Check.due("all bring 0 points", 0, lost.advise(0, 12));

        SandcastleLeague three = dry(1);
        passAt(three, 22);
        // All but the row 9, at 22.
        Check.due("under water", 108, three.count(2));
        for (int x = 0; x < 3; x++) {
            Check.due("the row 9", 108 + x, three.advise(0, 1));
            three.plant(0, x, 9);
        }
        Check.due("sticks or water on all", -1, three.advise(0, 1));
    }

    private static void noTeamAdvised() {
        for (int teams = 0; teams <= 4; teams++) {
            SandcastleLeague league = dry(teams);
            for (int team : new int[] {-1, teams, 4, MIN, MAX}) {
                Check.dueThrow("advise(" + team + ", 1) of " + teams, league, Check.IOOBE,
                    () -> league.advise(team, 1));
            }
            if (teams > 0) {
                Check.due("of the last team", 3 * (teams - 1), league.advise(teams - 1, 1));
            }
        }
    }

    private static void noHoursAdvised() {
        SandcastleLeague league = dry(1);
        for (int hours : new int[] {0, 13, 48, -1, MIN, MAX}) {
            Check.dueThrow("advise(0, " + hours + ")", league, Check.IAE, () -> league.advise(0, hours));
        }
        Check.due("1 hour", 0, league.advise(0, 1));
        Check.due("12 hours", 0, league.advise(0, 12));
    }
}
