/** The boundary cases that 'Terms' names for the beach, the teams, the tides, the water and the rounds. */
final class BoundaryTermsTest extends TestKit {
    private BoundaryTermsTest() {
    }

    public static void main(String[] args) {
        beach();
        teams();
        tides();
        water();
        rounds();
        exceptions();
        Check.finish("BoundaryTermsTest");
    }

    // ---- the beach

    private static void beach() {
        Check.sentence("Terms (promises 1, 8)", "The beach has 12 columns, x, 0 to 11, and 10 rows, y, 0 to 9",
            BoundaryTermsTest::columnsAndRows);
        Check.sentence("Terms (promises 11, 14)", "the row 0 at the sea", BoundaryTermsTest::rowAtTheSea);
        Check.sentence("Terms (promise 17)", "120 cells, the cell x + 12 * y", BoundaryTermsTest::cellNumbers);
        Check.sentence("Terms (promise 4)", "A cell has sand, 0 ..", BoundaryTermsTest::leastSand);
        Check.sentence("Terms (promise 5)", "A cell has sand, .. to 20", BoundaryTermsTest::greatestSand);
        Check.sentence("Terms (promise 1)", "A cell has sand .. (4, at first)", BoundaryTermsTest::firstSand);
        Check.sentence("Terms (promises 5, 11)", "and a firmness, 0 ..", BoundaryTermsTest::leastFirmness);
        Check.sentence("Terms (promise 6)", "and a firmness, .. to 5", BoundaryTermsTest::greatestFirmness);
        Check.sentence("Terms (promise 1)", "a firmness .. (0, at first)", BoundaryTermsTest::firstFirmness);
        Check.sentence("Terms (promise 8)", "its height is 2 * y and its sand", BoundaryTermsTest::heights);
        Check.sentence("Terms (promises 11, 14)",
            "Side by side are cells in one row and neighbouring columns, or in one column and neighbouring rows",
            BoundaryTermsTest::sideBySide);
    }

    private static void columnsAndRows() {
        SandcastleLeague league = withTeams(1);
        for (int x : new int[] {0, 11}) {
            for (int y : new int[] {0, 9}) {
                cellIs(league, x, y, 4, 0, 2 * y + 4, 0, 0, 0);
                Check.due("reach", 2 * y + 5, league.reach(x, y));
            }
        }
        int[][] outside = {{-1, 0}, {12, 0}, {0, -1}, {0, 10}, {-1, 9}, {12, 9}, {11, -1}, {11, 10}, {-1, -1},
            {12, 10}};
        for (int[] at : outside) {
            String where = "at (" + at[0] + ", " + at[1] + ")";
            Check.dueThrow("cell " + where, league, Check.IOOBE, () -> league.cell(at[0], at[1], 0));
            Check.dueThrow("reach " + where, league, Check.IOOBE, () -> league.reach(at[0], at[1]));
        }
    }

    private static void rowAtTheSea() {
        SandcastleLeague league = withTeams(4);
        for (int t = 0; t < 4; t++) {
            for (int x = 3 * t; x <= 3 * t + 2; x++) {
                league.dig(t, x, 9, 4);
            }
        }
        // The row 9 is at 18 now, behind the row 8 at 20: no water comes from the land.
        Check.due("flood(19)", 8 * 12, league.flood(19));
        passAt(league, 5);
        Check.due("under water at level 5", 12, league.count(2));
        for (int x = 0; x < 12; x++) {
            Check.due("cell(" + x + ", 0, 3)", 1, league.cell(x, 0, 3));
        }
    }

    private static void cellNumbers() {
        SandcastleLeague league = withTeams(4);
        Check.due("the first cell", 0, league.advise(0, 1));
        int[][] cells = {{0, 2, 0}, {0, 0, 1}, {1, 5, 4}, {2, 6, 7}, {3, 9, 9}, {3, 11, 9}};
        for (int[] at : cells) {
            SandcastleLeague one = dry(4);
            int team = at[0];
            one.dig(team, 3 * team + 1, 3, 2);
            one.pile(team, at[1], at[2], 1);
            // It alone has 5 sand, and would bring 2 points.
            Check.due("the cell (" + at[1] + ", " + at[2] + ")", at[1] + 12 * at[2], one.advise(team, 1));
        }
        Check.due("120 cells of 4 sand", 480, league.count(3));
        Check.due("120 cells under water", 120, league.flood(30));
    }

    private static void leastSand() {
        SandcastleLeague league = dry(1);
        Check.due("dig 4 of 4", 4, league.dig(0, 0, 0, 4));
        Check.due("sand", 0, league.cell(0, 0, 0));
        Check.due("dig 1 of 0", 0, league.dig(0, 0, 0, 1));
        Check.due("sand", 0, league.cell(0, 0, 0));
        passAt(league, 30);
        cellIs(league, 0, 0, 0, 0, 0, 1);
        passAt(league, 30);
        cellIs(league, 0, 0, 0, 0, 0, 1);
    }

    private static void greatestSand() {
        SandcastleLeague league = dry(1);
        fillBucket(league, 0, 20);
        pile(league, 0, 0, 0, 15);
        Check.due("sand", 19, league.cell(0, 0, 0));
        Check.due("pile 5 on 19", 1, league.pile(0, 0, 0, 5));
        Check.due("sand", 20, league.cell(0, 0, 0));
        Check.due("pile 1 on 20", 0, league.pile(0, 0, 0, 1));
        Check.due("sand", 20, league.cell(0, 0, 0));
        Check.due("bucket", 4, league.team(0, 0));
    }

    private static void firstSand() {
        SandcastleLeague league = new SandcastleLeague();
        for (int cell = 0; cell < 120; cell++) {
            Check.due("sand of " + cell, 4, league.cell(cell % 12, cell / 12, 0));
        }
    }

    private static void leastFirmness() {
        SandcastleLeague league = dry(1);
        league.dig(0, 0, 9, 4);
        league.pile(0, 1, 9, 1);
        Check.due("piled on soft sand", 0, league.cell(1, 9, 1));
        passAt(league, 5);
        Check.due("soft sand under water", 0, league.cell(0, 0, 1));
    }

    private static void greatestFirmness() {
        SandcastleLeague league = dry(1);
        pack(league, 0, 0, 0, 5);
        Check.due("packed 5 times", 5, league.cell(0, 0, 1));
        Check.due("packed once more", 5, league.pack(0, 0, 0));
        Check.due("firmness", 5, league.cell(0, 0, 1));
    }

    private static void firstFirmness() {
        SandcastleLeague league = new SandcastleLeague();
        for (int cell = 0; cell < 120; cell++) {
            Check.due("firmness of " + cell, 0, league.cell(cell % 12, cell / 12, 1));
        }
    }

    private static void heights() {
        SandcastleLeague league = dry(1);
        fillBucket(league, 0, 16);
        pile(league, 0, 0, 9, 16);
        league.dig(0, 0, 0, 4);
        Check.due("the least height", 0, league.cell(0, 0, 2));
        Check.due("the greatest height", 38, league.cell(0, 9, 2));
        for (int y = 0; y < 10; y++) {
            Check.due("height in the row " + y, 2 * y + 4, league.cell(11, y, 2));
        }
    }

    private static void sideBySide() {
        SandcastleLeague front = dry(1);
        front.dig(0, 1, 7, 4);
        front.pass(1);
        // 20 over 14.
        cellIs(front, 1, 8, 3);
        cellIs(front, 1, 7, 1);

        for (int x : new int[] {0, 2}) {
            SandcastleLeague side = dry(1);
            side.dig(0, x, 8, 4);
            side.dig(0, x, 9, 1);
            side.pile(0, 1, 8, 1);
            side.pass(1);
            // 21 over 16.
            cellIs(side, 1, 8, 4);
            cellIs(side, x, 8, 1);
        }

        SandcastleLeague back = dry(1);
        back.dig(0, 1, 9, 4);
        back.pile(0, 1, 8, 3);
        back.pile(0, 1, 7, 1);
        back.pass(1);
        // 23 over 18; 19 at its front.
        cellIs(back, 1, 8, 6);
        cellIs(back, 1, 9, 1);

        firstAndLastCells();
        notOverCorners();
        notOverEdges();
    }

    private static void firstAndLastCells() {
        int[][] ways = {{0, 1, 0}, {1, 0, 0}, {10, 11, 0}, {11, 10, 0}, {0, 1, 9}, {1, 0, 9}, {10, 11, 9}, {11, 10, 9}};
        for (int[] way : ways) {
            SandcastleLeague league = dry(4);
            int team = way[0] / 3;
            league.dig(team, way[1], way[2], 4);
            if (way[2] == 0) {
                // So that nothing comes from behind.
                league.dig(team, way[1], 1, 2);
            }
            league.pile(team, way[0], way[2], 1);
            league.pass(1);
            Check.due("slides in the row " + way[2], 1, league.count(5));
            cellIs(league, way[0], way[2], 4);
            cellIs(league, way[1], way[2], 1);
        }
    }

    private static void notOverCorners() {
        for (int x : new int[] {0, 2}) {
            SandcastleLeague front = dry(1);
            front.dig(0, x, 7, 1);
            front.dig(0, 1, 0, 1);
            front.pile(0, 1, 8, 2);
            front.pass(1);
            // 22 over 17 at the corner, but over 18 at the front.
            Check.due("slides over a corner", 0, front.count(5));

            SandcastleLeague back = dry(1);
            back.dig(0, x, 9, 4);
            back.pile(0, 1, 8, 3);
            back.pile(0, 1, 7, 1);
            back.pass(1);
            // 23 over 18 at the corner, but over 19 at the front.
            Check.due("slides over a corner", 0, back.count(5));
        }
    }

    private static void notOverEdges() {
        SandcastleLeague plain = dry(1);
        plain.pass(1);
        Check.due("slides from the row 9 to the row 0", 0, plain.count(5));

        // The cells (11, 8) and (0, 9) have the numbers 107 and 108.
        SandcastleLeague right = dry(4);
        right.dig(0, 0, 9, 4);
        right.dig(3, 9, 9, 4);
        right.pile(3, 11, 8, 3);
        right.pile(3, 11, 7, 1);
        right.pass(1);
        Check.due("slides of 23 over 18 at the other edge", 0, right.count(5));

        SandcastleLeague left = dry(4);
        left.dig(3, 11, 8, 2);
        left.dig(0, 2, 9, 2);
        left.pile(0, 0, 9, 2);
        left.pass(1);
        Check.due("slides of 24 over 18 at the other edge", 0, left.count(5));
    }

    // ---- the teams

    private static void teams() {
        Check.sentence("Terms (promise 2)", "There are at most 4", BoundaryTermsTest::atMostFourTeams);
        Check.sentence("Terms (promise 2)", "numbered from 0 in the order of their coming",
            BoundaryTermsTest::teamNumbers);
        Check.sentence("Terms (promises 4 to 7)", "the area of the team k are the columns 3 * k to 3 * k and 2",
            BoundaryTermsTest::areas);
        Check.sentence("Terms (promises 5, 9)", "A team has a bucket, 0 ..", BoundaryTermsTest::leastBucket);
        Check.sentence("Terms (promises 4, 9)", "A team has a bucket, .. to 40 sand",
            BoundaryTermsTest::greatestBucket);
        Check.sentence("Terms (promises 2, 9)", "a bucket .. (0, at first)", BoundaryTermsTest::firstBucket);
        Check.sentence("Terms (promises 4 to 7)", "a strength, 20 in each hour", BoundaryTermsTest::strength);
        Check.sentence("Terms (promise 7)", "and at most 3 sticks that stand", BoundaryTermsTest::atMostThreeSticks);
        Check.sentence("Terms (promises 4 to 7)",
            "Each deed of a team (dig, pile, pack, plant) takes 1 of its strength", BoundaryTermsTest::deedsTakeOne);
    }

    private static void atMostFourTeams() {
        SandcastleLeague league = new SandcastleLeague();
        for (int t = 1; t <= 4; t++) {
            league.addTeam();
            Check.due("teams", t, league.count(1));
        }
        Check.dueThrow("a fifth team", league, Check.ISE, () -> league.addTeam());
        Check.due("teams", 4, league.count(1));
    }

    private static void teamNumbers() {
        SandcastleLeague league = new SandcastleLeague();
        for (int t = 0; t < 4; t++) {
            int number = t;
            Check.dueThrow("team " + t + " ahead of its coming", league, Check.IOOBE, () -> league.team(number, 0));
            Check.due("addTeam()", t, league.addTeam());
            Check.due("strength of the team " + t, 20, league.team(t, 1));
        }
    }

    private static void areas() {
        for (int team = 0; team < 4; team++) {
            for (int deed = 0; deed < 4; deed++) {
                deedInTheArea(team, deed);
            }
            SandcastleLeague league = dry(4);
            for (int t = 0; t < 4; t++) {
                league.dig(t, 3 * t, 0, 1 + t / 2);
                league.dig(t, 3 * t + 2, 9, 1 + t % 2);
            }
            Check.due("sand of the area " + team, 118 - team / 2 - team % 2, league.team(team, 4));
        }
    }

    private static void deedInTheArea(int team, int deed) {
        SandcastleLeague league = dry(4);
        int first = 3 * team;
        int[][] inside = {{first, 0}, {first + 2, 0}, {first + 2, 9}};
        for (int[] at : inside) {
            Check.due(DEED_NAMES[deed] + " of " + team + " at (" + at[0] + ", " + at[1] + ") throws", 0,
                Check.thrownBy(() -> DEEDS[deed].of(league, team, at[0], at[1])));
        }
        int[][] outside = {{first - 1, 0}, {first + 3, 0}, {first - 1, 9}, {first + 3, 9}};
        for (int[] at : outside) {
            Check.dueThrow(DEED_NAMES[deed] + " of " + team + " at (" + at[0] + ", " + at[1] + ")", league,
                Check.IAE, () -> DEEDS[deed].of(league, team, at[0], at[1]));
        }
    }

    private static void leastBucket() {
        SandcastleLeague league = dry(1);
        league.dig(0, 0, 0, 2);
        Check.due("pile 5 out of 2", 2, league.pile(0, 1, 0, 5));
        Check.due("bucket", 0, league.team(0, 0));
        Check.due("pile 1 out of 0", 0, league.pile(0, 1, 0, 1));
        Check.due("bucket", 0, league.team(0, 0));
        Check.due("all sand", 480, league.count(3));
    }

    private static void greatestBucket() {
        SandcastleLeague league = dry(1);
        fillBucket(league, 0, 39);
        Check.due("dig 2 into 39", 1, league.dig(0, 0, 0, 2));
        Check.due("bucket", 40, league.team(0, 0));
        Check.due("dig 1 into 40", 0, league.dig(0, 0, 0, 1));
        Check.due("bucket", 40, league.team(0, 0));
        Check.due("all sand", 440, league.count(3));
    }

    private static void firstBucket() {
        SandcastleLeague league = withTeams(4);
        for (int t = 0; t < 4; t++) {
            Check.due("bucket of " + t, 0, league.team(t, 0));
            Check.due("pile of " + t, 0, league.pile(t, 3 * t, 0, 5));
        }
    }

    private static void strength() {
        SandcastleLeague league = dry(2);
        for (int hour = 0; hour < 3; hour++) {
            Check.due("strength", 20, league.team(0, 1));
            for (int d = 0; d < 20; d++) {
                league.pile(0, 0, 0, 1);
            }
            Check.due("strength after 20 deeds", 0, league.team(0, 1));
            Check.dueThrow("the deed 21", league, Check.ISE, () -> league.pile(0, 0, 0, 1));
            league.pass(1);
            Check.due("what was not used is not kept", 20, league.team(1, 1));
        }
    }

    private static void atMostThreeSticks() {
        SandcastleLeague league = dry(2);
        for (int y = 0; y < 3; y++) {
            Check.due("sticks", y + 1, league.plant(0, 0, y));
        }
        Check.dueThrow("a fourth stick", league, Check.ISE, () -> league.plant(0, 0, 3));
        league.pass(1);
        Check.dueThrow("a fourth stick an hour later", league, Check.ISE, () -> league.plant(0, 0, 3));
        Check.due("one of the other team", 1, league.plant(1, 3, 3));
        Check.due("all sticks", 4, league.count(6));
    }

    private static void deedsTakeOne() {
        for (int deed = 0; deed < 4; deed++) {
            SandcastleLeague league = dry(2);
            for (int d = 1; d <= 3; d++) {
                DEEDS[deed].of(league, 1, 3, d);
                Check.due("strength after " + d + " times " + DEED_NAMES[deed], 20 - d, league.team(1, 1));
            }
            Check.due("strength of the other team", 20, league.team(0, 1));
        }
        SandcastleLeague idle = dry(1);
        idle.dig(0, 0, 0, 4);
        idle.dig(0, 0, 0, 4);
        Check.due("strength after digging nothing", 18, idle.team(0, 1));
        idle.pack(0, 0, 0);
        Check.due("strength after packing nothing", 17, idle.team(0, 1));
        idle.pile(0, 0, 0, 4);
        idle.pile(0, 0, 0, 4);
        Check.due("strength after piling nothing", 15, idle.team(0, 1));
    }

    // ---- the tides

    private static void tides() {
        Check.sentence("Terms (promise 3)", "A table tells the level of the water for each of 12 hours, 0 ..",
            BoundaryTermsTest::leastTide);
        Check.sentence("Terms (promise 3)", "A table tells the level of the water for each of 12 hours, .. to 30",
            BoundaryTermsTest::greatestTide);
        Check.sentence("Terms (promises 3, 11)", "in the hour h that with the number h by the remainder of 12",
            BoundaryTermsTest::tidesWrapAround);
        Check.sentence("Terms (promises 1, 3)", "(At first 2, 4, 7, 9, 10, 10, 9, 7, 5, 3, 2, 1.)",
            BoundaryTermsTest::firstTides);
    }

    private static void leastTide() {
        for (int level = 0; level <= 1; level++) {
            SandcastleLeague league = withTeams(1);
            league.dig(0, 0, 0, 4);
            Check.due("the least height", 0, league.cell(0, 0, 2));
            passAt(league, level);
            Check.due("under water at level " + level, level, league.count(2));
        }
    }

    private static void greatestTide() {
        SandcastleLeague league = dry(1);
        fillBucket(league, 0, 16);
        pile(league, 0, 0, 9, 7);
        pack(league, 0, 0, 9, 5);
        // At 29; the cells beside it are not too low for its firmness.
        Check.due("height", 29, league.cell(0, 9, 2));
        passAt(league, 30);
        Check.due("under water at level 30", 120, league.count(2));
        Check.due("29 is under water", 1, league.cell(0, 9, 3));
    }

    private static void tidesWrapAround() {
        SandcastleLeague league = withTeams(1);
        int[] rows = {1, 2, 3, 4, 5, 6, 7, 8, 9, 10, 0, 5};
        for (int h = 0; h < 12; h++) {
            league.setTide(h, rows[h] == 0 ? 0 : 2 * rows[h] + 3);
        }
        for (int hour = 0; hour < 50; hour++) {
            int sand = league.foresee(1, 0, 2);
            league.pass(1);
            Check.due("under water in the hour " + hour, 12 * rows[hour % 12], league.count(2));
            Check.due("foreseen for the hour " + hour, league.team(0, 4), sand);
            league.endRound();
        }
        SandcastleLeague far = dry(0);
        far.setTide(11, 5);
        far.pass(48);
        far.endRound();
        Check.due("the hour", 48, far.count(0));
        far.pass(11);
        Check.due("under water in the hour 58", 0, far.count(2));
        far.pass(1);
        Check.due("under water in the hour 59", 12, far.count(2));
        far.pass(1);
        Check.due("under water in the hour 60", 0, far.count(2));
    }

    private static void firstTides() {
        SandcastleLeague league = new SandcastleLeague();
        int[] cells = {0, 0, 24, 36, 36, 36, 36, 24, 12, 0, 0, 0};
        for (int hour = 0; hour < 12; hour++) {
            league.pass(1);
            Check.due("under water in the hour " + hour, cells[hour], league.count(2));
            league.endRound();
        }
        for (int hour = 0; hour < 12; hour++) {
            Check.due("level of the hour " + hour, FIRST_TIDES[hour], league.setTide(hour, 0));
        }
    }

    // ---- the water

    private static void water() {
        Check.sentence("Terms (promises 11, 14)", "each cell of the row 0 whose height is less than it",
            BoundaryTermsTest::waterOfTheRowAtTheSea);
        Check.sentence("Terms (promises 11, 14)", "each cell whose height is less than it ..",
            BoundaryTermsTest::waterOfLowCells);
        Check.sentence("Terms (promises 11, 14)", ".. and that lies side by side with one under water",
            BoundaryTermsTest::waterOfOpenCells);
    }

    private static void waterIs(SandcastleLeague league, int level, int cells, int[]... at) {
        Check.due("flood(" + level + ")", cells, league.flood(level));
        passAt(league, level);
        Check.due("under water", cells, league.count(2));
        for (int[] cell : at) {
            Check.due("cell(" + cell[0] + ", " + cell[1] + ", 3)", cell[2], league.cell(cell[0], cell[1], 3));
        }
    }

    private static void waterOfTheRowAtTheSea() {
        waterIs(withTeams(4), 4, 0);
        waterIs(withTeams(4), 5, 12);
        for (int x : new int[] {0, 5, 11}) {
            for (int level = 2; level <= 3; level++) {
                SandcastleLeague hole = withTeams(4);
                hole.dig(x / 3, x, 0, 2);
                waterIs(hole, level, level - 2, new int[] {x, 0, level - 2});
            }
        }
        SandcastleLeague wall = withTeams(1);
        wall.dig(0, 0, 9, 1);
        wall.pile(0, 1, 0, 1);
        waterIs(wall, 5, 11, new int[] {0, 0, 1}, new int[] {1, 0, 0}, new int[] {2, 0, 1});
    }

    private static void waterOfLowCells() {
        waterIs(withTeams(1), 6, 12);
        waterIs(withTeams(1), 7, 24);
        waterIs(withTeams(1), 22, 108);
        waterIs(withTeams(1), 23, 120);
    }

    private static void waterOfOpenCells() {
        SandcastleLeague hollow = withTeams(1);
        hollow.dig(0, 1, 5, 4);
        hollow.dig(0, 2, 6, 4);
        // At 10 behind the row 4 at 12, and at 12 behind its corner.
        waterIs(hollow, 12, 48, new int[] {1, 5, 0}, new int[] {2, 6, 0});
        hollow.endRound();
        hollow.dig(0, 1, 5, 4);
        hollow.dig(0, 2, 6, 4);
        waterIs(hollow, 13, 61, new int[] {1, 5, 1}, new int[] {2, 6, 0});

        for (int x : new int[] {0, 2}) {
            SandcastleLeague canal = withTeams(1);
            int[][] dug = {{x, 4}, {x, 5}, {1, 5}, {2 - x, 5}, {2 - x, 4}};
            for (int[] at : dug) {
                canal.dig(0, at[0], at[1], 4);
            }
            canal.pile(0, 2 - x, 3, 1);
            // In from the row 3, along the row 5, and back towards the sea as far as the wall at 11.
            waterIs(canal, 11, 47 + 5, new int[] {x, 4, 1}, new int[] {1, 5, 1}, new int[] {1, 4, 0},
                new int[] {2 - x, 5, 1}, new int[] {2 - x, 4, 1}, new int[] {2 - x, 3, 0});
        }
        for (int x : new int[] {10, 11}) {
            SandcastleLeague last = withTeams(4);
            last.dig(3, x, 4, 4);
            last.dig(3, x, 5, 4);
            last.dig(3, 21 - x, 5, 4);
            waterIs(last, 11, 51, new int[] {x, 5, 1}, new int[] {21 - x, 5, 1}, new int[] {21 - x, 4, 0});
        }
        // At 6 in the row 1, with 7 and 9 all round.
        SandcastleLeague closed = withTeams(1);
        fillBucket(closed, 0, 6);
        closed.pile(0, 0, 0, 3);
        closed.pile(0, 1, 1, 1);
        closed.pile(0, 0, 2, 1);
        waterIs(closed, 7, 21, new int[] {0, 0, 0}, new int[] {0, 1, 0}, new int[] {1, 1, 0}, new int[] {2, 1, 1});
        waterAtTheEdges();
    }

    /** The cells (11, 4) and (0, 5) have the numbers 59 and 60. */
    private static void waterAtTheEdges() {
        SandcastleLeague right = withTeams(4);
        right.dig(3, 11, 4, 4);
        right.dig(0, 0, 5, 4);
        waterIs(right, 11, 49, new int[] {11, 4, 1}, new int[] {0, 5, 0});
        SandcastleLeague left = withTeams(4);
        left.dig(3, 11, 4, 4);
        left.pile(3, 11, 3, 1);
        left.dig(0, 0, 4, 4);
        left.dig(0, 0, 5, 4);
        waterIs(left, 11, 49, new int[] {0, 4, 1}, new int[] {0, 5, 1}, new int[] {11, 4, 0},
            new int[] {11, 3, 0});
    }

    // ---- rounds of the league

    private static void rounds() {
        Check.sentence("Terms (promise 12)",
            "each team gets as many league points as there are teams with fewer points than it has",
            BoundaryTermsTest::leaguePoints);
        Check.sentence("Terms (promise 12)", "then the beach .. [is] as at first", BoundaryTermsTest::beachAsAtFirst);
        Check.sentence("Terms (promise 12)", "then the .. firmness .. [is] as at first",
            BoundaryTermsTest::firmnessAsAtFirst);
        Check.sentence("Terms (promise 12)", "then the .. water .. [is] as at first",
            BoundaryTermsTest::waterAsAtFirst);
        Check.sentence("Terms (promise 12)", "then the .. buckets .. are as at first",
            BoundaryTermsTest::bucketsAsAtFirst);
        Check.sentence("Terms (promise 12)", "then the .. strengths .. are as at first",
            BoundaryTermsTest::strengthsAsAtFirst);
        Check.sentence("Terms (promise 12)", "then the .. sticks .. are as at first",
            BoundaryTermsTest::sticksAsAtFirst);
        Check.sentence("Terms (promise 12)", "then the .. points are as at first",
            BoundaryTermsTest::pointsAsAtFirst);
        Check.sentence("Terms (promise 12)", "(the hour .. stay)", BoundaryTermsTest::hourStays);
        Check.sentence("Terms (promise 12)", "(.. the table of the tides stay)", BoundaryTermsTest::tidesStay);
    }

    /** Ends a round in which the teams get these points, each as many as it has sticks. */
    private static void roundWithPoints(SandcastleLeague league, int... points) {
        for (int t = 0; t < points.length; t++) {
            for (int stick = 0; stick < points[t]; stick++) {
                league.plant(t, 3 * t + stick, 9);
            }
        }
        passAt(league, 0);
        for (int t = 0; t < points.length; t++) {
            Check.due("points of " + t, points[t], league.team(t, 2));
        }
        league.endRound();
    }

    private static void leaguePoints() {
        int[][] points = {{3, 2, 1, 0}, {0, 1, 2, 3}, {0, 0, 0, 0}, {2, 2, 2, 2}, {1, 3, 1, 3}, {0, 1, 1, 1},
            {3, 3, 3, 0}, {0, 3}, {2}, {1, 1}};
        int[][] want = {{3, 2, 1, 0}, {0, 1, 2, 3}, {0, 0, 0, 0}, {0, 0, 0, 0}, {0, 2, 0, 2}, {0, 1, 1, 1},
            {1, 1, 1, 0}, {0, 1}, {0}, {0, 0}};
        for (int i = 0; i < points.length; i++) {
            SandcastleLeague league = withTeams(points[i].length);
            roundWithPoints(league, points[i]);
            for (int t = 0; t < points[i].length; t++) {
                Check.due("league points of " + t, want[i][t], league.team(t, 7));
            }
            roundWithPoints(league, points[i]);
            for (int t = 0; t < points[i].length; t++) {
                Check.due("league points of " + t + " after two rounds", 2 * want[i][t], league.team(t, 7));
            }
        }
    }

    private static void beachAsAtFirst() {
        SandcastleLeague league = withTeams(4);
        for (int t = 0; t < 4; t++) {
            league.dig(t, 3 * t, 9, 4);
            league.pile(t, 3 * t + 2, 9, 3);
        }
        passAt(league, 30);
        league.endRound();
        beachIsAsAtFirst(league);
        Check.due("all sand", 480, league.count(3));
        Check.due("lost sand", 0, league.count(4));
        Check.due("slides", 0, league.count(5));
    }

    private static void firmnessAsAtFirst() {
        SandcastleLeague league = withTeams(4);
        for (int t = 0; t < 4; t++) {
            pack(league, t, 3 * t, 2 * t, 3);
            pack(league, t, 3 * t + 2, 9, 5);
        }
        league.endRound();
        beachIsAsAtFirst(league);
    }

    private static void waterAsAtFirst() {
        SandcastleLeague league = withTeams(4);
        passAt(league, 30);
        Check.due("under water", 120, league.count(2));
        league.endRound();
        Check.due("under water", 0, league.count(2));
        beachIsAsAtFirst(league);
        Check.due("a stick at the sea", 1, league.plant(0, 0, 0));
    }

    private static void bucketsAsAtFirst() {
        SandcastleLeague league = withTeams(4);
        for (int t = 0; t < 4; t++) {
            league.dig(t, 3 * t, 0, t + 1);
        }
        league.endRound();
        for (int t = 0; t < 4; t++) {
            Check.due("bucket of " + t, 0, league.team(t, 0));
            Check.due("pile of " + t, 0, league.pile(t, 3 * t, 0, 5));
        }
    }

    private static void strengthsAsAtFirst() {
        SandcastleLeague league = withTeams(4);
        for (int t = 0; t < 4; t++) {
            tire(league, t, 6 * t);
        }
        league.endRound();
        for (int t = 0; t < 4; t++) {
            Check.due("strength of " + t, 20, league.team(t, 1));
        }
    }

    private static void sticksAsAtFirst() {
        SandcastleLeague league = withTeams(4);
        for (int t = 0; t < 4; t++) {
            league.plant(t, 3 * t, 0);
            league.plant(t, 3 * t + 1, 9);
            league.plant(t, 3 * t + 2, 9);
        }
        passAt(league, 5);
        Check.due("fallen", 4, league.count(7));
        league.endRound();
        Check.due("sticks that stand", 0, league.count(6));
        Check.due("sticks that fell", 0, league.count(7));
        for (int t = 0; t < 4; t++) {
            Check.due("sticks of " + t, 0, league.team(t, 3));
        }
        beachIsAsAtFirst(league);
        passAt(league, 30);
        Check.due("none is left to fall", 0, league.count(7));
        league.endRound();
        for (int y = 0; y < 3; y++) {
            Check.due("planted anew", y + 1, league.plant(3, 11, y));
        }
    }

    private static void pointsAsAtFirst() {
        SandcastleLeague league = withTeams(4);
        roundWithPoints(league, 3, 0, 2, 1);
        for (int t = 0; t < 4; t++) {
            Check.due("points of " + t, 0, league.team(t, 2));
        }
        roundWithPoints(league, 0, 1, 0, 0);
        Check.due("league points of 0", 3, league.team(0, 7));
        Check.due("league points of 1", 3, league.team(1, 7));
    }

    private static void hourStays() {
        SandcastleLeague league = withTeams(1);
        league.endRound();
        Check.due("the hour", 0, league.count(0));
        league.pass(7);
        league.endRound();
        Check.due("the hour", 7, league.count(0));
        league.endRound();
        Check.due("the hour", 7, league.count(0));
        league.pass(1);
        // The hour 7 has the level 7, which the heights 4 and 6 are under.
        Check.due("under water", 24, league.count(2));
    }

    private static void tidesStay() {
        SandcastleLeague league = withTeams(1);
        for (int h = 0; h < 12; h++) {
            league.setTide(h, 30 - h);
        }
        league.endRound();
        for (int h = 0; h < 12; h++) {
            Check.due("level of the hour " + h, 30 - h, league.setTide(h, 0));
        }
    }

    // ---- exceptions

    private static void exceptions() {
        Check.sentence("Terms (promises 2 to 17)", "A method that throws an exception changes nothing",
            BoundaryTermsTest::throwingChangesNothing);
        Check.sentence("Terms (promise 3)", "If several exceptions apply, the one that is named first is thrown",
            BoundaryTermsTest::firstOfSetTide);
        for (int deed = 0; deed < 4; deed++) {
            int which = deed;
            Check.sentence("Terms (promise " + (4 + deed) + ")",
                "If several exceptions apply, the one that is named first is thrown", () -> firstOfDeed(which));
        }
        Check.sentence("Terms (promise 16)", "If several exceptions apply, the one that is named first is thrown",
            BoundaryTermsTest::firstOfForesee);
        Check.sentence("Terms (promise 17)", "If several exceptions apply, the one that is named first is thrown",
            BoundaryTermsTest::firstOfAdvise);
    }

    /** Halfway through a round: with sand in a bucket, water, sticks, a fallen one, points and a round ended. */
    private static SandcastleLeague halfway(int teams) {
        SandcastleLeague league = withTeams(teams);
        roundWithPoints(league, 1, 2);
        league.dig(0, 0, 8, 3);
        league.dig(1, 5, 8, 2);
        league.pile(0, 1, 9, 2);
        pack(league, 0, 2, 9, 2);
        league.plant(0, 2, 9);
        league.plant(0, 1, 9);
        league.plant(0, 0, 0);
        league.plant(1, 3, 5);
        passAt(league, 8);
        league.plant(0, 0, 9);
        return league;
    }

    private static void throwingChangesNothing() {
        SandcastleLeague league = halfway(4);
        Check.due("sticks", 4, league.count(6));
        Check.due("fallen", 1, league.count(7));
        Check.due("under water", 24, league.count(2));
        Check.dueThrow("addTeam", league, Check.ISE, () -> league.addTeam());
        Check.dueThrow("setTide, hour", league, Check.IOOBE, () -> league.setTide(12, 3));
        Check.dueThrow("setTide, level", league, Check.IAE, () -> league.setTide(3, 31));
        for (int deed = 0; deed < 4; deed++) {
            Deed of = DEEDS[deed];
            Check.dueThrow(DEED_NAMES[deed] + ", team", league, Check.IOOBE, () -> of.of(league, 4, 0, 2));
            Check.dueThrow(DEED_NAMES[deed] + ", area", league, Check.IAE, () -> of.of(league, 1, 2, 2));
        }
        Check.dueThrow("dig, n", league, Check.IAE, () -> league.dig(0, 0, 2, 6));
        Check.dueThrow("pile, n", league, Check.IAE, () -> league.pile(0, 0, 2, 0));
        Check.dueThrow("plant a fourth", league, Check.ISE, () -> league.plant(0, 1, 5));
        Check.dueThrow("plant on one", league, Check.ISE, () -> league.plant(1, 3, 5));
        Check.dueThrow("plant in the water", league, Check.ISE, () -> league.plant(1, 3, 0));
        Check.dueThrow("cell", league, Check.IOOBE, () -> league.cell(0, 10, 0));
        Check.dueThrow("cell, what", league, Check.IOOBE, () -> league.cell(0, 0, 6));
        Check.dueThrow("team", league, Check.IOOBE, () -> league.team(4, 0));
        Check.dueThrow("team, what", league, Check.IOOBE, () -> league.team(0, 8));
        Check.dueThrow("count", league, Check.IOOBE, () -> league.count(9));
        Check.dueThrow("pass", league, Check.IAE, () -> league.pass(49));
        Check.dueThrow("leader", league, Check.IOOBE, () -> league.leader(4));
        Check.dueThrow("flood", league, Check.IAE, () -> league.flood(31));
        Check.dueThrow("reach", league, Check.IOOBE, () -> league.reach(12, 0));
        Check.dueThrow("foresee, hours", league, Check.IAE, () -> league.foresee(49, 0, 0));
        Check.dueThrow("foresee, team", league, Check.IOOBE, () -> league.foresee(1, 4, 0));
        Check.dueThrow("foresee, what", league, Check.IOOBE, () -> league.foresee(1, 0, 3));
        Check.dueThrow("advise, team", league, Check.IOOBE, () -> league.advise(4, 1));
        Check.dueThrow("advise, hours", league, Check.IAE, () -> league.advise(0, 13));
        tire(league, 2, 0);
        for (int deed = 0; deed < 4; deed++) {
            Deed of = DEEDS[deed];
            Check.dueThrow(DEED_NAMES[deed] + ", strength", league, Check.ISE, () -> of.of(league, 2, 6, 5));
        }
        // What came of it all is what comes of a league in which nothing was thrown.
        SandcastleLeague same = halfway(4);
        tire(same, 2, 0);
        Check.due("digest", same.digest(), league.digest());
        Check.due("pass(12)", same.pass(12), league.pass(12));
        Check.due("digest after 12 hours", same.digest(), league.digest());
    }

    private static void firstOfSetTide() {
        SandcastleLeague league = withTeams(1);
        Check.dueThrow("both wrong", league, Check.IOOBE, () -> league.setTide(-1, -1));
        Check.dueThrow("both wrong", league, Check.IOOBE, () -> league.setTide(12, 31));
    }

    private static void firstOfDeed(int deed) {
        SandcastleLeague league = dry(2);
        Deed of = DEEDS[deed];
        Check.dueThrow("team and area", league, Check.IOOBE, () -> of.of(league, 2, 0, 0));
        Check.dueThrow("team and beach", league, Check.IOOBE, () -> of.of(league, -1, -1, 10));
        if (deed < 2) {
            Check.dueThrow("team, area and n", league, Check.IOOBE, () -> amount(league, deed, 2, 0, 0));
            Check.dueThrow("team and n", league, Check.IOOBE, () -> amount(league, deed, 2, 6, 6));
        }
        for (int y = 1; y <= 3; y++) {
            league.plant(0, 1, y);
        }
        tire(league, 0, 0);
        Check.dueThrow("area and strength", league, Check.IAE, () -> of.of(league, 0, 3, 1));
        Check.dueThrow("beach and strength", league, Check.IAE, () -> of.of(league, 0, 1, -1));
        Check.dueThrow("strength alone", league, Check.ISE, () -> of.of(league, 0, 1, 1));
        if (deed < 2) {
            Check.dueThrow("n and strength", league, Check.IAE, () -> amount(league, deed, 0, 0, 0));
            Check.dueThrow("n and strength", league, Check.IAE, () -> amount(league, deed, 0, 0, 6));
        }
    }

    private static int amount(SandcastleLeague league, int deed, int team, int x, int n) {
        return deed == 0 ? league.dig(team, x, 0, n) : league.pile(team, x, 0, n);
    }

    private static void firstOfForesee() {
        SandcastleLeague league = withTeams(1);
        Check.dueThrow("hours and team", league, Check.IAE, () -> league.foresee(0, 1, 0));
        Check.dueThrow("hours and what", league, Check.IAE, () -> league.foresee(49, 0, 3));
        Check.dueThrow("all wrong", league, Check.IAE, () -> league.foresee(-1, -1, -1));
        Check.dueThrow("team and what", league, Check.IOOBE, () -> league.foresee(1, 1, 3));
    }

    private static void firstOfAdvise() {
        SandcastleLeague league = withTeams(1);
        Check.dueThrow("both wrong", league, Check.IOOBE, () -> league.advise(1, 0));
        Check.dueThrow("both wrong", league, Check.IOOBE, () -> league.advise(-1, 13));
    }
}
