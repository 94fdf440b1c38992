/** The boundary cases of an hour, step by step, and of the hours that pass() lets go by. */
final class BoundaryHourTest extends TestKit {
    private BoundaryHourTest() {
    }

    public static void main(String[] args) {
        water();
        erosion();
        slides();
        sticks();
        end();
        Check.finish("BoundaryHourTest");
    }

    // ---- step 1

    private static void water() {
        Check.sentence("Terms, an hour (promise 11)", "The cells under water with the level of this hour are found",
            BoundaryHourTest::levelOfThisHour);
        Check.sentence("Terms, an hour (promise 11)", "they are so till the next hour goes by",
            BoundaryHourTest::waterStays);
    }

    private static void levelOfThisHour() {
        SandcastleLeague league = withTeams(1);
        tidesFrom(league, 5, 0, 8);
        league.pass(1);
        Check.due("level 5 of the hour 0", 12, league.count(2));
        league.pass(1);
        Check.due("level 0 of the hour 1", 0, league.count(2));
        league.pass(1);
        Check.due("level 8 of the hour 2", 24, league.count(2));
        league.setTide(3, 10);
        league.pass(1);
        Check.due("level 10 of the hour 3, which was set just now", 36, league.count(2));
    }

    private static void waterStays() {
        SandcastleLeague league = dry(1);
        passAt(league, 5);
        league.setTide(0, 30);
        league.setTide(1, 30);
        league.dig(0, 0, 1, 4);
        league.dig(0, 1, 9, 4);
        league.pile(0, 1, 0, 5);
        league.dig(0, 2, 0, 1);
        league.pack(0, 2, 0);
        league.flood(30);
        league.reach(0, 9);
        league.foresee(1, 0, 2);
        league.advise(0, 1);
        league.addTeam();
        // (0, 1) is at 2 now and (1, 0) at 8: it was otherwise when the water was found.
        Check.due("under water", 12, league.count(2));
        Check.due("(0, 1)", 0, league.cell(0, 1, 3));
        Check.due("(1, 0)", 1, league.cell(1, 0, 3));
        passAt(league, 5);
        Check.due("under water an hour later", 12, league.count(2));
        Check.due("(0, 1) an hour later", 1, league.cell(0, 1, 3));
        Check.due("(1, 0) an hour later", 0, league.cell(1, 0, 3));
        passAt(league, 0);
        Check.due("under water at level 0", 0, league.count(2));
    }

    // ---- step 2

    private static void erosion() {
        Check.sentence("Terms, an hour (promise 11)",
            "Each of them loses sand to the sea: 1 and (the level less its height) / 3",
            BoundaryHourTest::lossByDepth);
        Check.sentence("Terms, an hour (promise 11)", "less half its firmness (cut)",
            BoundaryHourTest::lossByFirmness);
        Check.sentence("Terms (promise 11)", "/ is cut towards 0", BoundaryHourTest::cutTowardsZero);
        Check.sentence("Terms, an hour (promise 11)", "but at least 0", BoundaryHourTest::lossAtLeast);
        Check.sentence("Terms, an hour (promise 11)", "and at most all", BoundaryHourTest::lossAtMost);
        Check.sentence("Terms, an hour (promise 11)", "then its firmness is 1 less, if it is greater than 0",
            BoundaryHourTest::firmnessAfterTheLoss);
        Check.sentence("Terms, an hour (promise 11)", "each step for all cells ahead of the next one",
            BoundaryHourTest::stepAfterStep);
    }

    /** What (1, 0) alone loses in one hour, with so much sand, up to 16, and so firm. */
    private static int lossOf(int level, int sand, int firmness) {
        SandcastleLeague with = washed(level, sand, firmness);
        // Without sand it loses nothing, and all others lose what they lose beside it.
        return with.count(4) - washed(level, 0, 0).count(4);
    }

    private static SandcastleLeague washed(int level, int sand, int firmness) {
        SandcastleLeague league = dry(1);
        for (int x = 0; x < 3; x++) {
            league.dig(0, x, 9, 4);
        }
        pile(league, 0, 1, 0, sand - 4);
        if (sand < 4) {
            league.dig(0, 1, 0, 4 - sand);
        }
        pack(league, 0, 1, 0, firmness);
        cellIs(league, 1, 0, sand, firmness);
        passAt(league, level);
        return league;
    }

    private static void lossByDepth() {
        int[] want = {0, 1, 1, 2, 2, 2, 3, 3, 3, 4, 4, 4, 5, 5, 5, 6};
        for (int depth = 0; depth < want.length; depth++) {
            Check.due("lost at the depth " + depth, want[depth], lossOf(12 + depth, 12, 0));
        }
        SandcastleLeague rows = dry(1);
        passAt(rows, 13);
        int[] depths = {9, 7, 5, 3, 1};
        for (int y = 0; y < 5; y++) {
            cellIs(rows, 11, y, 4 - want[depths[y]], 0, 2 * y + 4 - want[depths[y]], 1);
        }
        cellIs(rows, 11, 5, 4, 0, 14, 0);
    }

    private static void lossByFirmness() {
        int[] half = {0, 0, 1, 1, 2, 2};
        for (int firmness = 0; firmness <= 5; firmness++) {
            Check.due("lost at the depth 6 with the firmness " + firmness, 3 - half[firmness],
                lossOf(18, 12, firmness));
            Check.due("lost at the depth 8 with the firmness " + firmness, 3 - half[firmness],
                lossOf(20, 12, firmness));
            Check.due("lost at the depth 9 with the firmness " + firmness, 4 - half[firmness],
                lossOf(21, 12, firmness));
        }
    }

    /** Each quotient is cut by itself, not their sum. */
    private static void cutTowardsZero() {
        Check.due("lost at the depth 4 with the firmness 1", 2, lossOf(16, 12, 1));
        Check.due("lost at the depth 5 with the firmness 1", 2, lossOf(17, 12, 1));
        Check.due("lost at the depth 5 with the firmness 3", 1, lossOf(17, 12, 3));
        Check.due("lost at the depth 2 with the firmness 3", 0, lossOf(14, 12, 3));
        Check.due("lost at the depth 7 with the firmness 5", 1, lossOf(19, 12, 5));
        SandcastleLeague league = dry(1);
        league.dig(0, 1, 0, 2);
        league.dig(0, 2, 0, 2);
        league.dig(0, 1, 1, 1);
        pile(league, 0, 1, 9, 5);
        pack(league, 0, 1, 9, 5);
        league.plant(0, 1, 9);
        league.plant(0, 0, 9);
        league.pass(1);
        // 9 / 5 and 4 / 5, not 13 / 5.
        Check.due("points", 1 + 1 + 1 + 0, league.team(0, 2));
    }

    private static void lossAtLeast() {
        int[] firmOnes = {2, 3, 4, 5};
        for (int firmness : firmOnes) {
            Check.due("lost at the depth 1 with the firmness " + firmness, 0, lossOf(5, 4, firmness));
            Check.due("lost at the depth 2 with the firmness " + firmness, 0, lossOf(6, 4, firmness));
        }
        SandcastleLeague league = dry(4);
        for (int t = 0; t < 4; t++) {
            for (int x = 3 * t; x < 3 * t + 3; x++) {
                pack(league, t, x, 0, 5);
            }
        }
        passAt(league, 5);
        Check.due("lost sand", 0, league.count(4));
        Check.due("all sand", 480, league.count(3));
        cellIs(league, 0, 0, 4, 4, 4, 1);
    }

    private static void lossAtMost() {
        for (int sand = 0; sand <= 4; sand++) {
            Check.due("lost of " + sand, sand, lossOf(16, sand, 0));
        }
        // Firmness 5: 1 and 12 / 3 less 2 are 3.
        Check.due("lost of 2", 2, lossOf(14, 2, 5));
        SandcastleLeague league = dry(1);
        passAt(league, 30);
        passAt(league, 30);
        passAt(league, 30);
        Check.due("lost sand", 480, league.count(4));
        Check.due("all sand", 0, league.count(3));
        cellIs(league, 0, 0, 0, 0, 0, 1);
    }

    private static void firmnessAfterTheLoss() {
        for (int firmness = 0; firmness <= 5; firmness++) {
            Check.due("firmness after " + firmness, Math.max(firmness - 1, 0),
                washed(5, 4, firmness).cell(1, 0, 1));
            Check.due("firmness after " + firmness + " where all is lost", Math.max(firmness - 1, 0),
                firmness == 0 ? 0 : washed(30, 1, firmness).cell(1, 0, 1));
        }
        // The firmness 2 saves 1, though it is 1 then.
        Check.due("lost at the depth 1 with the firmness 2", 0, lossOf(5, 4, 2));
        SandcastleLeague above = dry(1);
        pack(above, 0, 1, 1, 3);
        passAt(above, 6);
        Check.due("firmness above the water", 3, above.cell(1, 1, 1));
        passAt(above, 7);
        Check.due("firmness in the water", 2, above.cell(1, 1, 1));
        passAt(above, 7);
        Check.due("firmness in the water again", 1, above.cell(1, 1, 1));
    }

    private static void stepAfterStep() {
        SandcastleLeague washedFirst = dry(1);
        washedFirst.dig(0, 2, 9, 2);
        washedFirst.pile(0, 0, 1, 2);
        passAt(washedFirst, 5);
        // 8 over 4 would not slide; it does when the water has made 3 of 4.
        cellIs(washedFirst, 0, 0, 4, 0, 4, 1);
        cellIs(washedFirst, 0, 1, 5, 0, 7, 0);
        Check.due("slides", 1, washedFirst.count(5));

        SandcastleLeague foundFirst = dry(1);
        foundFirst.dig(0, 2, 9, 2);
        foundFirst.pile(0, 0, 1, 2);
        foundFirst.plant(0, 0, 1);
        passAt(foundFirst, 8);
        // At 8 it was dry, and stays so though it slides to 7; nothing of it is lost.
        cellIs(foundFirst, 0, 1, 5, 0, 7, 0, 1, 8);
        Check.due("lost sand", 12 * 2 + 11, foundFirst.count(4));

        SandcastleLeague slidFirst = dry(1);
        slidFirst.dig(0, 1, 8, 2);
        slidFirst.pile(0, 1, 9, 1);
        slidFirst.plant(0, 1, 9);
        slidFirst.pass(1);
        // 5 sand at 23 over 18: with the 4 that are left the stick stands, and brings 1 point.
        cellIs(slidFirst, 1, 9, 4, 0, 22, 0, 1, 23);
        Check.due("points", 1, slidFirst.team(0, 2));
    }

    // ---- step 3

    private static void slides() {
        Check.sentence("Terms, an hour (promise 11)", "Slides, round by round, until there is none in a round",
            BoundaryHourTest::slidesUntilNone);
        Check.sentence("Terms, an hour (promise 11)", "but at most 40 rounds", BoundaryHourTest::manyRounds);
        Check.sentence("Terms, an hour (promise 11)", "in each the cells are gone through in ascending order",
            BoundaryHourTest::ascendingOrder);
        Check.sentence("Terms, an hour (promise 11)", "a cell slides, if it has sand",
            BoundaryHourTest::noSandNoSlide);
        Check.sentence("Terms, an hour (promise 11)",
            "and its height is greater than that of the lowest cell side by side with it .. and 4",
            BoundaryHourTest::fourIsNotTooSteep);
        Check.sentence("Terms, an hour (promise 11)", "and its own firmness, all added",
            BoundaryHourTest::firmSandHolds);
        Check.sentence("Terms, an hour (promise 11)", "(of several the one with the smallest number)",
            BoundaryHourTest::smallestNumber);
        Check.sentence("Terms, an hour (promise 11)", "and that cell has less than 20",
            BoundaryHourTest::nothingSlidesOnAFullCell);
        Check.sentence("Terms, an hour (promise 11)", "1 sand goes there, at once", BoundaryHourTest::oneAtOnce);
    }

    private static void slidesUntilNone() {
        SandcastleLeague league = dry(1);
        league.dig(0, 0, 9, 4);
        league.dig(0, 1, 9, 4);
        league.dig(0, 2, 9, 2);
        pile(league, 0, 1, 0, 10);
        league.pass(1);
        // 14 over 4, 4 and 6: left, right, left, right, and 10 over 6 is not too steep.
        Check.due("slides in four rounds", 4, league.count(5));
        cellIs(league, 0, 0, 6);
        cellIs(league, 1, 0, 10);
        cellIs(league, 2, 0, 6);
        cellIs(league, 1, 1, 4);
        league.pass(1);
        Check.due("slides an hour later", 0, league.count(5));
    }

    /**
     * No run is known that comes to 40 rounds: the longest search over all beaches of 480 sand found 31.
     * This one, of 23 rounds, must not be cut off.
     */
    private static void manyRounds() {
        SandcastleLeague league = dry(4);
        int[][] dug = {{11, 2, 3}, {10, 6, 4}, {10, 7, 2}, {11, 6, 4}, {9, 4, 4}, {9, 6, 4}, {9, 2, 4}, {9, 5, 4},
            {11, 5, 4}, {9, 7, 2}, {11, 4, 4}};
        for (int[] at : dug) {
            league.dig(3, at[0], at[1], at[2]);
        }
        pack(league, 3, 10, 8, 3);
        pile(league, 3, 11, 9, 1);
        pile(league, 3, 10, 9, 3);
        league.dig(3, 10, 4, 4);
        league.pass(1);
        Check.due("slides in 1 round", 5, league.count(5));
        // A castle in the last corner of the beach, up to 38, with hollows in front of it.
        pile(league, 3, 11, 8, 4);
        pile(league, 3, 10, 9, 14);
        pile(league, 3, 11, 8, 10);
        league.dig(2, 8, 9, 3);
        pack(league, 3, 10, 8, 1);
        pack(league, 3, 10, 9, 2);
        league.dig(3, 11, 7, 3);
        league.dig(3, 11, 6, 1);
        pile(league, 3, 11, 8, 2);
        pack(league, 3, 10, 8, 1);
        league.dig(3, 10, 7, 2);
        pack(league, 3, 10, 9, 1);
        pile(league, 3, 11, 9, 15);
        cellIs(league, 10, 9, 20, 3, 38);
        cellIs(league, 11, 9, 20, 0, 38);
        cellIs(league, 11, 8, 20, 0, 36);
        league.pass(1);
        Check.due("slides in 23 rounds", 59, league.count(5));
        league.pass(1);
        Check.due("slides after them", 0, league.count(5));
    }

    /** (0, 8) and (2, 8) at 21, and (1, 8) at 16 between them. */
    private static SandcastleLeague gap() {
        SandcastleLeague league = dry(1);
        league.dig(0, 1, 8, 4);
        league.dig(0, 1, 9, 2);
        league.pile(0, 0, 8, 1);
        league.pile(0, 2, 8, 1);
        return league;
    }

    private static void ascendingOrder() {
        SandcastleLeague league = gap();
        league.pass(1);
        cellIs(league, 0, 8, 4, 0, 20);
        cellIs(league, 1, 8, 1, 0, 17);
        cellIs(league, 2, 8, 5, 0, 21);

        SandcastleLeague column = dry(1);
        column.dig(0, 1, 8, 4);
        column.dig(0, 1, 9, 1);
        column.pile(0, 1, 7, 3);
        column.pile(0, 1, 6, 1);
        column.pass(1);
        // 16 between 21 in front and 21 behind it.
        cellIs(column, 1, 7, 6, 0, 20);
        cellIs(column, 1, 8, 1, 0, 17);
        cellIs(column, 1, 9, 3, 0, 21);
    }

    private static void noSandNoSlide() {
        SandcastleLeague league = dry(4);
        passAt(league, 30);
        passAt(league, 30);
        passAt(league, 30);
        Check.due("all sand", 0, league.count(3));
        passAt(league, 0);
        Check.due("slides without sand", 0, league.count(5));
        for (int cell = 0; cell < 120; cell++) {
            Check.due("sand of " + cell, 0, league.cell(cell % 12, cell / 12, 0));
        }
    }

    /** (1, 9) higher than (1, 8), the lowest beside it, by so much, and so firm. */
    private static SandcastleLeague step(int height, int firmness) {
        SandcastleLeague league = dry(1);
        shave(league, 0, 0, 4);
        pile(league, 0, 1, 9, height - 2);
        pack(league, 0, 1, 9, firmness);
        Check.due("the step", height, league.cell(1, 9, 2) - league.cell(1, 8, 2));
        return league;
    }

    private static void slidesFrom(SandcastleLeague league, int want) {
        int sand = league.cell(1, 9, 0);
        int firmness = league.cell(1, 9, 1);
        league.pass(1);
        Check.due("slides", want, league.count(5));
        cellIs(league, 1, 9, sand - want, firmness);
        cellIs(league, 1, 8, 4 + want);
    }

    private static void fourIsNotTooSteep() {
        slidesFrom(step(4, 0), 0);
        slidesFrom(step(5, 0), 1);
    }

    private static void firmSandHolds() {
        for (int firmness = 1; firmness <= 5; firmness++) {
            slidesFrom(step(4 + firmness, firmness), 0);
            slidesFrom(step(5 + firmness, firmness), 1);
        }
        SandcastleLeague below = step(5, 0);
        pack(below, 0, 1, 8, 5);
        slidesFrom(below, 1);
        Check.due("the firmness below", 5, below.cell(1, 8, 1));
    }

    private static void smallestNumber() {
        SandcastleLeague frontLeftRight = dry(1);
        frontLeftRight.dig(0, 0, 9, 2);
        frontLeftRight.dig(0, 2, 9, 2);
        frontLeftRight.pile(0, 1, 9, 3);
        slidesTo(frontLeftRight, 1, 9, 1, 8);

        SandcastleLeague leftRight = dry(1);
        leftRight.dig(0, 0, 9, 3);
        leftRight.dig(0, 2, 9, 3);
        leftRight.pile(0, 1, 9, 2);
        slidesTo(leftRight, 1, 9, 0, 9);

        SandcastleLeague frontBack = dry(1);
        frontBack.dig(0, 1, 9, 4);
        frontBack.pile(0, 1, 8, 3);
        slidesTo(frontBack, 1, 8, 1, 7);

        for (int x : new int[] {0, 2}) {
            SandcastleLeague sideBack = dry(1);
            sideBack.dig(0, 1, 9, 4);
            sideBack.dig(0, x, 8, 2);
            sideBack.pile(0, 1, 8, 3);
            sideBack.pile(0, 1, 7, 1);
            slidesTo(sideBack, 1, 8, x, 8);
        }
    }

    private static void slidesTo(SandcastleLeague league, int x, int y, int lowX, int lowY) {
        int from = league.cell(x, y, 0);
        int to = league.cell(lowX, lowY, 0);
        league.pass(1);
        Check.due("slides", 1, league.count(5));
        cellIs(league, x, y, from - 1);
        cellIs(league, lowX, lowY, to + 1);
    }

    /** No run is known in which the lowest cell of a slope is full; no cell gets more than 20 anyway. */
    private static void nothingSlidesOnAFullCell() {
        SandcastleLeague league = dry(1);
        fillBucket(league, 0, 32);
        pile(league, 0, 1, 8, 16);
        pile(league, 0, 1, 9, 16);
        for (int hour = 0; hour < 3; hour++) {
            league.pass(1);
            for (int cell = 0; cell < 120; cell++) {
                int sand = league.cell(cell % 12, cell / 12, 0);
                Check.due("sand of " + cell + " is 0 to 20", 1, sand >= 0 && sand <= 20 ? 1 : 0);
            }
            Check.due("all sand", 480, league.count(3));
        }
    }

    private static void oneAtOnce() {
        SandcastleLeague league = gap();
        league.pass(1);
        // 21 over 16 gives 1, and the other 21 finds 17 in the same round.
        Check.due("slides", 1, league.count(5));
        cellIs(league, 0, 8, 4);
        cellIs(league, 1, 8, 1);
        cellIs(league, 2, 8, 5);
    }

    // ---- step 4

    private static void sticks() {
        Check.sentence("Terms, an hour (promise 11)", "Each stick on a cell that is under water .. falls",
            BoundaryHourTest::sticksInTheWaterFall);
        Check.sentence("Terms, an hour (promise 11)",
            "or whose height is less than it was when the stick was planted, less 1, falls",
            BoundaryHourTest::sticksOnLowerCellsFall);
        Check.sentence("Terms, an hour (promise 11)", "falls: it is gone", BoundaryHourTest::fallenSticksAreGone);
        Check.sentence("Terms, an hour (promise 11)", "Each other one brings its team 1 point and sand / 5 of its cell",
            BoundaryHourTest::pointsBySand);
    }

    private static void sticksInTheWaterFall() {
        SandcastleLeague league = dry(1);
        pack(league, 0, 0, 0, 5);
        pack(league, 0, 2, 0, 5);
        league.plant(0, 0, 0);
        league.plant(0, 1, 0);
        league.plant(0, 1, 1);
        Check.due("fallen at level 4", 0, passAt(league, 4));
        Check.due("points", 3, league.team(0, 2));
        Check.due("fallen at level 5", 2, passAt(league, 5));
        // (0, 0) is not lower than it was: it was firm enough.
        cellIs(league, 0, 0, 4, 4, 4, 1, 0, 0);
        cellIs(league, 1, 0, 3, 0, 3, 1, 0, 0);
        cellIs(league, 1, 1, 4, 0, 6, 0, 1, 6);
        Check.due("points", 4, league.team(0, 2));
    }

    private static void sticksOnLowerCellsFall() {
        for (int lower = 0; lower <= 3; lower++) {
            SandcastleLeague league = dry(1);
            league.plant(0, 1, 9);
            if (lower > 0) {
                league.dig(0, 1, 9, lower);
            }
            Check.due("fallen when " + lower + " lower", lower > 1 ? 1 : 0, league.pass(1));
            Check.due("points when " + lower + " lower", lower > 1 ? 0 : 1, league.team(0, 2));
        }
        SandcastleLeague higher = dry(1);
        higher.plant(0, 1, 8);
        higher.dig(0, 1, 9, 2);
        higher.pile(0, 1, 8, 2);
        Check.due("fallen when 2 higher", 0, higher.pass(1));
        higher.dig(0, 1, 8, 3);
        Check.due("fallen when 1 lower than at first", 0, higher.pass(1));
        higher.dig(0, 1, 8, 1);
        Check.due("fallen when 2 lower than at first", 1, higher.pass(1));

        SandcastleLeague low = dry(1);
        low.dig(0, 0, 9, 3);
        low.plant(0, 0, 9);
        low.dig(0, 0, 9, 1);
        Check.due("fallen when 1 lower, with no sand", 0, low.pass(1));
        Check.due("points", 1, low.team(0, 2));
    }

    private static void fallenSticksAreGone() {
        SandcastleLeague league = dry(1);
        league.plant(0, 0, 0);
        league.plant(0, 0, 9);
        league.plant(0, 1, 9);
        league.dig(0, 0, 9, 2);
        Check.due("fallen", 2, passAt(league, 5));
        cellIs(league, 0, 0, 3, 0, 3, 1, 0, 0);
        cellIs(league, 0, 9, 2, 0, 20, 0, 0, 0);
        cellIs(league, 1, 9, 4, 0, 22, 0, 1, 22);
        Check.due("sticks of the team", 1, league.team(0, 3));
        Check.due("sticks", 1, league.count(6));
        Check.due("fallen again", 0, passAt(league, 5));
        Check.due("sticks that fell", 2, league.count(7));
        Check.due("points", 2, league.team(0, 2));
        Check.due("a new one there", 2, league.plant(0, 0, 9));
    }

    private static void pointsBySand() {
        int[] want = {1, 1, 1, 1, 1, 2, 2, 2, 2, 2, 3, 3};
        for (int sand = 0; sand <= 11; sand++) {
            SandcastleLeague league = dry(2);
            shave(league, 0, 0, 4);
            if (sand < 4) {
                league.dig(0, 1, 9, 4 - sand);
            }
            pile(league, 0, 1, 9, sand - 4);
            pack(league, 0, 1, 9, 5);
            league.plant(0, 1, 9);
            league.pass(1);
            Check.due("sand", sand, league.cell(1, 9, 0));
            Check.due("points with the sand " + sand, want[sand], league.team(0, 2));
            Check.due("points of the other team", 0, league.team(1, 2));
            league.plant(0, 0, 8);
            league.plant(1, 5, 9);
            league.pass(2);
            Check.due("points of three hours", 3 * want[sand] + 2, league.team(0, 2));
            Check.due("points of the other team", 2, league.team(1, 2));
        }
        pointsOfAFullCell();
    }

    /** 38 in the corner, 29 at its sides and 20 beside them, all as firm as can be. */
    private static void pointsOfAFullCell() {
        SandcastleLeague league = dry(1);
        shave(league, 0, 0, 10);
        pile(league, 0, 0, 7, 2);
        pile(league, 0, 0, 8, 9);
        pack(league, 0, 0, 8, 5);
        league.pass(1);
        shave(league, 0, 10, 8);
        pile(league, 0, 1, 9, 7);
        pack(league, 0, 1, 9, 5);
        league.pass(1);
        pile(league, 0, 0, 9, 16);
        pack(league, 0, 0, 9, 5);
        league.plant(0, 0, 9);
        league.pass(1);
        Check.due("slides", 0, league.count(5));
        Check.due("sand", 20, league.cell(0, 9, 0));
        Check.due("points with the sand 20", 5, league.team(0, 2));
        league.dig(0, 0, 9, 1);
        pack(league, 0, 0, 9, 5);
        league.pass(1);
        Check.due("sand", 19, league.cell(0, 9, 0));
        Check.due("points with the sand 20 and 19", 5 + 4, league.team(0, 2));
    }

    // ---- step 5

    private static void end() {
        Check.sentence("Terms, an hour (promise 11)", "The strength of each team is 20 again",
            BoundaryHourTest::strengthAgain);
        Check.sentence("Terms, an hour (promise 11)", "The hour is 1 greater", BoundaryHourTest::hourGreater);
    }

    private static void strengthAgain() {
        SandcastleLeague league = dry(4);
        tire(league, 0, 0);
        tire(league, 1, 19);
        tire(league, 3, 1);
        league.pass(1);
        for (int t = 0; t < 4; t++) {
            Check.due("strength of " + t, 20, league.team(t, 1));
        }
        tire(league, 3, 0);
        league.pass(5);
        for (int t = 0; t < 4; t++) {
            Check.due("strength of " + t + " after five hours", 20, league.team(t, 1));
        }
    }

    private static void hourGreater() {
        SandcastleLeague league = withTeams(1);
        for (int hour = 0; hour < 30; hour++) {
            Check.due("the hour", hour, league.count(0));
            league.pass(1);
        }
        league.pass(48);
        Check.due("the hour", 78, league.count(0));
    }
}
