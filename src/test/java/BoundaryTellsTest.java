/** The boundary cases of the promises 1, 8, 9, 10, 18 and 19: what is told of the beach and the teams. */
final class BoundaryTellsTest extends TestKit {
    private BoundaryTellsTest() {
    }

    public static void main(String[] args) {
        newObject();
        cell();
        team();
        count();
        mean();
        digest();
        Check.finish("BoundaryTellsTest");
    }

    /** All sand of the beach is gone, and all cells are under water. */
    private static SandcastleLeague drowned(int teams) {
        SandcastleLeague league = dry(teams);
        for (int hour = 0; hour < 3; hour++) {
            passAt(league, 30);
        }
        return league;
    }

    // ---- promise 1

    private static void newObject() {
        Check.sentence("Promise 1", "Creates a beach without teams", BoundaryTellsTest::withoutTeams);
        Check.sentence("Promise 1", "at the hour 0", BoundaryTellsTest::atTheHourZero);
        Check.sentence("What it is", "An object is used for at most 512 calls", BoundaryTellsTest::manyCalls);
    }

    private static void withoutTeams() {
        SandcastleLeague league = new SandcastleLeague();
        counts("new", league, 0, 0, 0, 480, 0, 0, 0, 0, 0);
        Check.dueThrow("team 0", league, Check.IOOBE, () -> league.team(0, 0));
        Check.dueThrow("place 0", league, Check.IOOBE, () -> league.leader(0));
        beachIsAsAtFirst(league);
        Check.due("sticks that fell without teams", 0, league.pass(48));
        Check.due("a round without teams", 1, league.endRound());
    }

    private static void atTheHourZero() {
        SandcastleLeague league = new SandcastleLeague();
        Check.due("the hour", 0, league.count(0));
        league.setTide(0, 5);
        league.setTide(1, 0);
        league.pass(1);
        Check.due("under water in the first hour", 12, league.count(2));
        Check.due("the hour of another object", 0, new SandcastleLeague().count(0));
    }

    private static void manyCalls() {
        SandcastleLeague league = new SandcastleLeague();
        league.addTeam();
        league.plant(0, 0, 9);
        for (int call = 3; call < 512; call++) {
            league.pass(48);
        }
        Check.due("the hour after 509 times 48", 509 * 48, league.count(0));
    }

    // ---- promise 8

    private static void cell() {
        Check.sentence("Promise 8", "0 its sand", BoundaryTellsTest::sandOfCells);
        Check.sentence("Promise 8", "1 its firmness", BoundaryTellsTest::firmnessOfCells);
        Check.sentence("Promise 8", "2 its height", BoundaryTellsTest::heightOfCells);
        Check.sentence("Promise 8", "3 1 if it is under water, else 0", BoundaryTellsTest::waterOfCells);
        Check.sentence("Promise 8", "4 1 if a stick stands on it, else 0", BoundaryTellsTest::sticksOfCells);
        Check.sentence("Promise 8", "5 the height when the stick was planted", BoundaryTellsTest::plantedHeight);
        Check.sentence("Promise 8", "5 .. 0 without one", BoundaryTellsTest::noPlantedHeight);
        Check.sentence("Promise 8", "Throws IndexOutOfBoundsException if there is no such cell",
            BoundaryTellsTest::noSuchCell);
        Check.sentence("Promise 8", "Throws IndexOutOfBoundsException if .. what is not 0 to 5",
            BoundaryTellsTest::noSuchNumberOfACell);
    }

    private static void sandOfCells() {
        SandcastleLeague league = dry(4);
        fillBucket(league, 3, 20);
        pile(league, 3, 11, 9, 16);
        Check.due("a full cell", 20, league.cell(11, 9, 0));
        Check.due("an empty cell", 0, league.cell(9, 5, 0));
        Check.due("another cell", 4, league.cell(0, 0, 0));
    }

    private static void firmnessOfCells() {
        SandcastleLeague league = dry(4);
        pack(league, 3, 11, 9, 5);
        pack(league, 0, 0, 0, 1);
        Check.due("as firm as can be", 5, league.cell(11, 9, 1));
        Check.due("a little firm", 1, league.cell(0, 0, 1));
        Check.due("soft", 0, league.cell(1, 0, 1));
    }

    private static void heightOfCells() {
        SandcastleLeague league = dry(4);
        fillBucket(league, 3, 20);
        pile(league, 3, 11, 9, 16);
        league.dig(0, 0, 0, 4);
        Check.due("the greatest", 38, league.cell(11, 9, 2));
        Check.due("the least", 0, league.cell(0, 0, 2));
        Check.due("without sand in the row 5", 10, league.cell(9, 5, 2));
    }

    private static void waterOfCells() {
        SandcastleLeague league = withTeams(1);
        for (int cell = 0; cell < 120; cell++) {
            Check.due("new", 0, league.cell(cell % 12, cell / 12, 3));
        }
        passAt(league, 30);
        for (int cell = 0; cell < 120; cell++) {
            Check.due("at level 30", 1, league.cell(cell % 12, cell / 12, 3));
        }
        passAt(league, 0);
        for (int cell = 0; cell < 120; cell++) {
            Check.due("at level 0", 0, league.cell(cell % 12, cell / 12, 3));
        }
    }

    private static void sticksOfCells() {
        SandcastleLeague league = dry(4);
        Check.due("none", 0, league.cell(11, 9, 4));
        league.plant(3, 11, 9);
        league.plant(0, 0, 0);
        Check.due("of the last team", 1, league.cell(11, 9, 4));
        Check.due("of the first team", 1, league.cell(0, 0, 4));
        Check.due("none beside it", 0, league.cell(1, 0, 4));
        passAt(league, 5);
        Check.due("it fell", 0, league.cell(0, 0, 4));
        Check.due("it stands", 1, league.cell(11, 9, 4));
        league.endRound();
        Check.due("a round later", 0, league.cell(11, 9, 4));
    }

    private static void plantedHeight() {
        SandcastleLeague league = dry(1);
        league.dig(0, 0, 9, 2);
        league.plant(0, 0, 9);
        Check.due("planted at 20", 20, league.cell(0, 9, 5));
        league.pile(0, 0, 9, 2);
        Check.due("2 higher", 22, league.cell(0, 9, 2));
        Check.due("planted at 20", 20, league.cell(0, 9, 5));
        league.pass(1);
        Check.due("planted at 20, an hour ago", 20, league.cell(0, 9, 5));
        league.dig(0, 0, 9, 3);
        Check.due("1 lower", 19, league.cell(0, 9, 2));
        Check.due("planted at 20", 20, league.cell(0, 9, 5));
        league.dig(0, 0, 0, 4);
        league.plant(0, 0, 0);
        Check.due("planted at 0", 0, league.cell(0, 0, 5));
    }

    private static void noPlantedHeight() {
        SandcastleLeague league = dry(1);
        Check.due("none yet", 0, league.cell(0, 9, 5));
        league.plant(0, 0, 9);
        league.plant(0, 1, 9);
        league.dig(0, 0, 9, 2);
        league.pass(1);
        Check.due("it fell", 0, league.cell(0, 9, 5));
        Check.due("it stands", 22, league.cell(1, 9, 5));
        league.endRound();
        Check.due("a round later", 0, league.cell(1, 9, 5));
    }

    private static void noSuchCell() {
        SandcastleLeague league = withTeams(1);
        int[][] outside = {{-1, 0}, {12, 0}, {0, -1}, {0, 10}, {-1, 9}, {12, 9}, {11, -1}, {11, 10}, {-12, 1},
            {12, -1}, {24, -2}, {MIN, 0}, {MAX, 0}, {0, MIN}, {0, MAX}, {0, 357913942}};
        for (int[] at : outside) {
            Check.dueThrow("(" + at[0] + ", " + at[1] + ")", league, Check.IOOBE,
                () -> league.cell(at[0], at[1], 0));
        }
        Check.due("the first", 4, league.cell(0, 0, 2));
        Check.due("the last", 22, league.cell(11, 9, 2));
    }

    private static void noSuchNumberOfACell() {
        SandcastleLeague league = withTeams(1);
        for (int what : new int[] {-1, 6, MIN, MAX}) {
            Check.dueThrow("what " + what, league, Check.IOOBE, () -> league.cell(0, 0, what));
        }
        Check.due("what 0", 4, league.cell(0, 0, 0));
        Check.due("what 5", 0, league.cell(0, 0, 5));
    }

    // ---- promise 9

    private static void team() {
        Check.sentence("Promise 9", "0 its bucket", BoundaryTellsTest::bucketOfTeams);
        Check.sentence("Promise 9", "1 its strength", BoundaryTellsTest::strengthOfTeams);
        Check.sentence("Promise 9", "2 its points", BoundaryTellsTest::pointsOfTeams);
        Check.sentence("Promise 9", "3 sticks of it that stand", BoundaryTellsTest::sticksOfTeams);
        Check.sentence("Promise 9", "4 all sand of its area", BoundaryTellsTest::sandOfAreas);
        Check.sentence("Promise 9", "5 the greatest height in its area", BoundaryTellsTest::greatestHeightOfAreas);
        Check.sentence("Promise 9", "6 cells of its area under water", BoundaryTellsTest::waterOfAreas);
        Check.sentence("Promise 9", "7 its league points", BoundaryTellsTest::leaguePointsOfTeams);
        Check.sentence("Promise 9", "Throws IndexOutOfBoundsException if there is no such team",
            BoundaryTellsTest::noSuchTeam);
        Check.sentence("Promise 9", "Throws IndexOutOfBoundsException if .. what is not 0 to 7",
            BoundaryTellsTest::noSuchNumberOfATeam);
    }

    private static void bucketOfTeams() {
        SandcastleLeague league = dry(4);
        fillBucket(league, 3, 40);
        league.dig(2, 6, 0, 1);
        int[] want = {0, 0, 1, 40};
        for (int t = 0; t < 4; t++) {
            Check.due("bucket of " + t, want[t], league.team(t, 0));
        }
    }

    private static void strengthOfTeams() {
        SandcastleLeague league = dry(4);
        tire(league, 3, 0);
        tire(league, 2, 19);
        int[] want = {20, 20, 19, 0};
        for (int t = 0; t < 4; t++) {
            Check.due("strength of " + t, want[t], league.team(t, 1));
        }
    }

    private static void pointsOfTeams() {
        SandcastleLeague league = dry(4);
        league.plant(3, 9, 9);
        league.plant(3, 10, 9);
        league.plant(1, 3, 9);
        Check.due("ahead of the hour", 0, league.team(3, 2));
        league.pass(10);
        int[] want = {0, 10, 0, 20};
        for (int t = 0; t < 4; t++) {
            Check.due("points of " + t, want[t], league.team(t, 2));
        }
        passAt(league, 30);
        Check.due("points of the fallen ones stay", 20, league.team(3, 2));
    }

    private static void sticksOfTeams() {
        SandcastleLeague league = dry(4);
        for (int stick = 0; stick < 3; stick++) {
            league.plant(3, 9 + stick, stick == 0 ? 0 : 9);
        }
        league.plant(2, 6, 0);
        int[] planted = {0, 0, 1, 3};
        int[] stand = {0, 0, 0, 2};
        for (int t = 0; t < 4; t++) {
            Check.due("sticks of " + t, planted[t], league.team(t, 3));
        }
        passAt(league, 5);
        for (int t = 0; t < 4; t++) {
            Check.due("sticks of " + t + " that stand", stand[t], league.team(t, 3));
        }
    }

    private static void sandOfAreas() {
        for (int team = 0; team < 4; team++) {
            SandcastleLeague league = dry(4);
            int[][] corners = {{0, 0}, {2, 0}, {0, 9}, {2, 9}};
            int dug = 0;
            for (int[] at : corners) {
                league.dig(team, 3 * team + at[0], at[1], 3);
                dug += 3;
                for (int t = 0; t < 4; t++) {
                    Check.due("sand of " + t, t == team ? 120 - dug : 120, league.team(t, 4));
                }
            }
        }
        Check.due("without sand", 0, drowned(4).team(2, 4));
        SandcastleLeague full = dry(1);
        fillBucket(full, 0, 16);
        pile(full, 0, 0, 0, 16);
        Check.due("moved within the area", 120, full.team(0, 4));
    }

    private static void greatestHeightOfAreas() {
        int[][] corners = {{0, 0}, {2, 0}, {0, 9}, {2, 9}};
        for (int team = 0; team < 4; team++) {
            for (int[] at : corners) {
                SandcastleLeague league = dry(4);
                for (int t = 0; t < 4; t++) {
                    for (int x = 3 * t; x < 3 * t + 3; x++) {
                        league.dig(t, x, 9, 4);
                        league.dig(t, x, 8, 4);
                        league.dig(t, x, 7, 2);
                    }
                }
                pile(league, team, 3 * team + at[0], at[1], at[1] == 0 ? 16 : 5);
                for (int t = 0; t < 4; t++) {
                    Check.due("of " + t, t != team ? 18 : at[1] == 0 ? 20 : 23, league.team(t, 5));
                }
            }
        }
        Check.due("without sand", 18, drowned(4).team(2, 5));
        SandcastleLeague highest = dry(1);
        fillBucket(highest, 0, 16);
        pile(highest, 0, 1, 9, 16);
        Check.due("the greatest", 38, highest.team(0, 5));
    }

    private static void waterOfAreas() {
        SandcastleLeague league = withTeams(4);
        Check.due("new", 0, league.team(3, 6));
        league.dig(1, 3, 0, 1);
        league.dig(3, 11, 0, 1);
        league.dig(3, 9, 0, 1);
        passAt(league, 4);
        int[] want = {0, 1, 0, 2};
        for (int t = 0; t < 4; t++) {
            Check.due("at level 4, of " + t, want[t], league.team(t, 6));
        }
        passAt(league, 30);
        for (int t = 0; t < 4; t++) {
            Check.due("at level 30, of " + t, 30, league.team(t, 6));
        }
        passAt(league, 0);
        Check.due("at level 0", 0, league.team(3, 6));
    }

    private static void leaguePointsOfTeams() {
        SandcastleLeague league = dry(4);
        league.plant(3, 9, 9);
        league.plant(3, 10, 9);
        league.plant(1, 3, 9);
        league.pass(1);
        Check.due("ahead of the end", 0, league.team(3, 7));
        league.endRound();
        int[] want = {0, 2, 0, 3};
        for (int t = 0; t < 4; t++) {
            Check.due("league points of " + t, want[t], league.team(t, 7));
        }
        league.endRound();
        for (int t = 0; t < 4; t++) {
            Check.due("league points of " + t + " after a round without points", want[t], league.team(t, 7));
        }
    }

    private static void noSuchTeam() {
        for (int teams = 0; teams <= 4; teams++) {
            SandcastleLeague league = withTeams(teams);
            for (int team : new int[] {-1, teams, 4, MIN, MAX}) {
                Check.dueThrow("team " + team + " of " + teams, league, Check.IOOBE, () -> league.team(team, 0));
            }
            for (int team = 0; team < teams; team++) {
                Check.due("team " + team + " of " + teams, 20, league.team(team, 1));
            }
        }
    }

    private static void noSuchNumberOfATeam() {
        SandcastleLeague league = withTeams(1);
        for (int what : new int[] {-1, 8, MIN, MAX}) {
            Check.dueThrow("what " + what, league, Check.IOOBE, () -> league.team(0, what));
        }
        Check.due("what 0", 0, league.team(0, 0));
        Check.due("what 7", 0, league.team(0, 7));
    }

    // ---- promise 10

    private static void count() {
        Check.sentence("Promise 10", "0 the hour", BoundaryTellsTest::countHour);
        Check.sentence("Promise 10", "1 teams", BoundaryTellsTest::countTeams);
        Check.sentence("Promise 10", "2 cells under water", BoundaryTellsTest::countWater);
        Check.sentence("Promise 10", "3 all sand of the beach", BoundaryTellsTest::countSand);
        Check.sentence("Promise 10", "4 sand that was lost to the sea in this round of the league",
            BoundaryTellsTest::countLostSand);
        Check.sentence("Promise 10", "5 slides of the latest hour", BoundaryTellsTest::countSlides);
        Check.sentence("Promise 10", "5 slides .. of this round of the league (0 if there was none)",
            BoundaryTellsTest::countNoSlides);
        Check.sentence("Promise 10", "6 sticks that stand", BoundaryTellsTest::countSticks);
        Check.sentence("Promise 10", "7 sticks that fell in this round of the league",
            BoundaryTellsTest::countFallenSticks);
        Check.sentence("Promise 10", "8 rounds of the league that have ended", BoundaryTellsTest::countRounds);
        Check.sentence("Promise 10", "Throws IndexOutOfBoundsException if what is not 0 to 8",
            BoundaryTellsTest::noSuchCount);
    }

    private static void countHour() {
        SandcastleLeague league = withTeams(1);
        Check.due("new", 0, league.count(0));
        league.pass(48);
        Check.due("it does not wrap around", 48, league.count(0));
        league.endRound();
        Check.due("a round later", 48, league.count(0));
    }

    private static void countTeams() {
        SandcastleLeague league = new SandcastleLeague();
        for (int t = 0; t < 4; t++) {
            Check.due("teams", t, league.count(1));
            league.addTeam();
        }
        Check.thrownBy(() -> league.addTeam());
        Check.due("teams", 4, league.count(1));
        league.endRound();
        Check.due("a round later", 4, league.count(1));
    }

    private static void countWater() {
        SandcastleLeague league = dry(4);
        Check.due("new", 0, league.count(2));
        league.dig(3, 11, 0, 1);
        passAt(league, 4);
        Check.due("one", 1, league.count(2));
        passAt(league, 30);
        Check.due("all", 120, league.count(2));
        league.flood(0);
        Check.due("after flood(0)", 120, league.count(2));
        passAt(league, 0);
        Check.due("none", 0, league.count(2));
    }

    private static void countSand() {
        SandcastleLeague league = dry(4);
        league.dig(0, 0, 0, 4);
        league.dig(3, 11, 9, 4);
        Check.due("but what is in buckets", 472, league.count(3));
        league.pile(3, 11, 9, 1);
        Check.due("what was piled", 473, league.count(3));
        Check.due("without sand", 0, drowned(1).count(3));
    }

    private static void countLostSand() {
        SandcastleLeague league = dry(1);
        Check.due("new", 0, league.count(4));
        league.dig(0, 0, 9, 4);
        Check.due("what is dug is not lost", 0, league.count(4));
        passAt(league, 5);
        Check.due("an hour", 12, league.count(4));
        passAt(league, 5);
        Check.due("two hours", 24, league.count(4));
        passAt(league, 0);
        Check.due("an hour without water", 24, league.count(4));
        league.endRound();
        Check.due("another round", 0, league.count(4));
        passAt(league, 5);
        Check.due("an hour of it", 12, league.count(4));
        Check.due("all of a beach", 480, drowned(1).count(4));
    }

    private static void countSlides() {
        SandcastleLeague league = dry(1);
        league.dig(0, 1, 7, 4);
        Check.due("ahead of the hour", 0, league.count(5));
        league.pass(1);
        // 20 over 14.
        Check.due("one", 1, league.count(5));
        league.pass(1);
        Check.due("none in the latest hour", 0, league.count(5));
        league.dig(0, 1, 7, 1);
        league.dig(0, 2, 7, 4);
        league.pass(1);
        // (1, 8) at 19 over 14, (2, 8) at 20 over 14.
        Check.due("two", 2, league.count(5));

        SandcastleLeague atOnce = dry(1);
        atOnce.dig(0, 1, 7, 4);
        atOnce.pass(2);
        Check.due("none in the latest of two", 0, atOnce.count(5));
    }

    private static void countNoSlides() {
        SandcastleLeague league = dry(1);
        Check.due("new", 0, league.count(5));
        league.dig(0, 1, 7, 4);
        league.pass(1);
        Check.due("one", 1, league.count(5));
        league.endRound();
        Check.due("no hour in this round yet", 0, league.count(5));
        league.dig(0, 1, 7, 4);
        league.pass(1);
        Check.due("one in this round", 1, league.count(5));
    }

    private static void countSticks() {
        SandcastleLeague league = dry(4);
        for (int t = 0; t < 4; t++) {
            for (int stick = 0; stick < 3; stick++) {
                Check.due("sticks", 3 * t + stick, league.count(6));
                league.plant(t, 3 * t + stick, stick == 0 ? 0 : 9);
            }
        }
        Check.due("as many as can be", 12, league.count(6));
        passAt(league, 5);
        Check.due("four fell", 8, league.count(6));
        passAt(league, 30);
        Check.due("all fell", 0, league.count(6));
    }

    private static void countFallenSticks() {
        SandcastleLeague league = dry(2);
        Check.due("new", 0, league.count(7));
        league.plant(0, 0, 0);
        league.plant(0, 0, 1);
        league.plant(1, 3, 0);
        passAt(league, 5);
        Check.due("two", 2, league.count(7));
        passAt(league, 7);
        Check.due("three", 3, league.count(7));
        league.plant(1, 3, 9);
        league.endRound();
        Check.due("another round, in which none fell", 0, league.count(7));
        league.plant(0, 0, 0);
        passAt(league, 5);
        Check.due("one of this round", 1, league.count(7));
    }

    private static void countRounds() {
        SandcastleLeague league = withTeams(1);
        for (int round = 0; round < 5; round++) {
            Check.due("rounds", round, league.count(8));
            league.endRound();
            league.pass(1);
        }
        Check.due("rounds", 5, league.count(8));
    }

    private static void noSuchCount() {
        SandcastleLeague league = withTeams(1);
        for (int what : new int[] {-1, 9, MIN, MAX}) {
            Check.dueThrow("what " + what, league, Check.IOOBE, () -> league.count(what));
        }
        counts("0 to 8", league, 0, 1, 0, 480, 0, 0, 0, 0, 0);
    }

    // ---- promise 18

    private static void mean() {
        Check.sentence("Promise 18", "Returns the mean height of all cells", BoundaryTellsTest::meanOfAllCells);
    }

    private static void meanOfAllCells() {
        SandcastleLeague league = dry(4);
        Check.dueDouble("new", 13.0, league.mean());
        league.dig(0, 0, 0, 1);
        Check.dueDouble("1 less in the first cell", 1559 / 120.0, league.mean());
        league.dig(3, 11, 9, 1);
        Check.dueDouble("1 less in the last cell", 1558 / 120.0, league.mean());
        league.pile(3, 11, 0, 1);
        Check.dueDouble("1 more", 1559 / 120.0, league.mean());
        // The heights 0 to 18 of the ten rows.
        Check.dueDouble("without sand", 9.0, drowned(1).mean());
    }

    // ---- promise 19

    private static void digest() {
        Check.sentence("Promise 19", "A number d starts with 503; for each .. d becomes d * 31 + x, which wraps "
            + "around as a 64-bit integer", BoundaryTellsTest::digestWrapsAround);
        Check.sentence("Promise 19", "what count() tells, in its order", BoundaryTellsTest::digestOfCounts);
        Check.sentence("Promise 19", "the level of each hour of the table", BoundaryTellsTest::digestOfTides);
        Check.sentence("Promise 19", "for each team what team() tells, in its order",
            BoundaryTellsTest::digestOfTeams);
        Check.sentence("Promise 19", "for each cell what cell() tells, in its order",
            BoundaryTellsTest::digestOfCells);
    }

    private static void digestIs(SandcastleLeague league, int[] tides) {
        Check.due("digest", digestOf(league, tides), league.digest());
        Check.due("digest again", digestOf(league, tides), league.digest());
    }

    private static void digestWrapsAround() {
        boolean greater = false;
        boolean less = false;
        SandcastleLeague league = withTeams(1);
        for (int hour = 0; hour < 8; hour++) {
            digestIs(league, FIRST_TIDES);
            greater |= league.digest() > Integer.MAX_VALUE;
            less |= league.digest() < Integer.MIN_VALUE;
            league.pass(1);
        }
        Check.due("some are greater than 32 bits, and some are under 0", 1, greater && less ? 1 : 0);
    }

    private static void digestOfCounts() {
        SandcastleLeague league = withTeams(2);
        league.dig(0, 1, 8, 4);
        league.plant(0, 0, 0);
        league.plant(1, 3, 9);
        league.endRound();
        league.dig(0, 1, 7, 4);
        league.plant(0, 0, 0);
        league.plant(1, 3, 9);
        league.plant(1, 4, 9);
        league.setTide(0, 7);
        league.pass(1);
        int[] tides = FIRST_TIDES.clone();
        tides[0] = 7;
        counts("now", league, 1, 2, 24, 440, 36, 1, 2, 1, 1);
        digestIs(league, tides);
    }

    private static void digestOfTides() {
        for (int hour = 0; hour < 12; hour++) {
            SandcastleLeague league = withTeams(1);
            int[] tides = FIRST_TIDES.clone();
            for (int level : new int[] {0, 30}) {
                league.setTide(hour, level);
                tides[hour] = level;
                digestIs(league, tides);
            }
        }
    }

    private static void digestOfTeams() {
        for (int teams = 0; teams <= 4; teams++) {
            SandcastleLeague league = withTeams(teams);
            digestIs(league, FIRST_TIDES);
            for (int t = 0; t < teams; t++) {
                league.dig(t, 3 * t, 5, t + 1);
                league.plant(t, 3 * t, 9);
                pack(league, t, 3 * t + 1, 9, t);
                digestIs(league, FIRST_TIDES);
            }
            league.pass(4);
            digestIs(league, FIRST_TIDES);
            league.endRound();
            digestIs(league, FIRST_TIDES);
        }
    }

    private static void digestOfCells() {
        SandcastleLeague league = withTeams(4);
        for (int t = 0; t < 4; t++) {
            for (int y = 0; y < 10; y += 3) {
                league.dig(t, 3 * t + y % 2, y, 1 + t);
                league.pack(t, 3 * t + 2, y);
                digestIs(league, FIRST_TIDES);
            }
            league.plant(t, 3 * t + 2, 8 - t);
            digestIs(league, FIRST_TIDES);
        }
        league.pass(5);
        digestIs(league, FIRST_TIDES);
    }
}
