/** The boundary cases of the promises 2 to 7: teams and tides, and the deeds. */
final class BoundaryDeedsTest extends TestKit {
    private static final int[] NO_AMOUNTS = {0, 6, -1, MIN, MAX};

    private BoundaryDeedsTest() {
    }

    public static void main(String[] args) {
        addTeam();
        setTide();
        dig();
        pile();
        pack();
        plant();
        Check.finish("BoundaryDeedsTest");
    }

    // ---- what the deeds have in common

    private static void noSuchTeam(int deed) {
        for (int teams = 0; teams <= 4; teams++) {
            SandcastleLeague league = dry(teams);
            for (int team : new int[] {-1, teams, 4, MIN, MAX}) {
                int x = team >= 0 && team < 4 ? 3 * team : 0;
                Check.dueThrow(DEED_NAMES[deed] + " of " + team + " among " + teams, league, Check.IOOBE,
                    () -> DEEDS[deed].of(league, team, x, 1));
            }
            for (int team = 0; team < teams; team++) {
                int t = team;
                Check.due(DEED_NAMES[deed] + " of " + team + " throws", 0,
                    Check.thrownBy(() -> DEEDS[deed].of(league, t, 3 * t, 1)));
            }
        }
    }

    private static void notInTheArea(int deed) {
        SandcastleLeague league = dry(4);
        for (int team = 0; team < 4; team++) {
            int t = team;
            int first = 3 * team;
            int[][] outside = {{first - 1, 1}, {first + 3, 1}, {first, -1}, {first + 2, 10}, {first + 12, 1},
                {first - 12, 2}, {first + 12, -1}, {first - 3, 4}, {MIN, 1}, {MAX, 1}, {first, MIN}, {first, MAX},
                {first, 357913942}};
            for (int[] at : outside) {
                Check.dueThrow(DEED_NAMES[deed] + " of " + team + " at (" + at[0] + ", " + at[1] + ")", league,
                    Check.IAE, () -> DEEDS[deed].of(league, t, at[0], at[1]));
            }
            int[][] inside = {{first, 0}, {first + 2, 0}, {first + 1, 9}};
            for (int[] at : inside) {
                Check.due(DEED_NAMES[deed] + " of " + team + " at (" + at[0] + ", " + at[1] + ") throws", 0,
                    Check.thrownBy(() -> DEEDS[deed].of(league, t, at[0], at[1])));
            }
        }
    }

    private static void noStrengthLeft(int deed) {
        SandcastleLeague league = dry(2);
        tire(league, 0, 1);
        DEEDS[deed].of(league, 0, 1, 5);
        Check.due("strength after the last deed", 0, league.team(0, 1));
        Check.dueThrow(DEED_NAMES[deed] + " without strength", league, Check.ISE,
            () -> DEEDS[deed].of(league, 0, 2, 5));
        Check.due(DEED_NAMES[deed] + " of the other team throws", 0,
            Check.thrownBy(() -> DEEDS[deed].of(league, 1, 3, 5)));
        league.pass(1);
        Check.due(DEED_NAMES[deed] + " an hour later throws", 0,
            Check.thrownBy(() -> DEEDS[deed].of(league, 0, 2, 5)));
        tire(league, 0, 0);
        league.endRound();
        Check.due(DEED_NAMES[deed] + " a round later throws", 0,
            Check.thrownBy(() -> DEEDS[deed].of(league, 0, 2, 5)));
    }

    private static void errorsOf(int promise, int deed) {
        String where = "Promise " + promise;
        Check.sentence(where, "Throws IndexOutOfBoundsException if there is no such team", () -> noSuchTeam(deed));
        Check.sentence(where, "Throws IllegalArgumentException if the cell is not in the area of the team",
            () -> notInTheArea(deed));
        Check.sentence(where, "Throws IllegalStateException if the team has no strength left",
            () -> noStrengthLeft(deed));
    }

    // ---- promise 2

    private static void addTeam() {
        Check.sentence("Promise 2", "Returns its number", BoundaryDeedsTest::addTeamReturnsTheNumber);
        Check.sentence("Promise 2", "Throws IllegalStateException if there are 4", BoundaryDeedsTest::fourTeams);
    }

    private static void addTeamReturnsTheNumber() {
        SandcastleLeague league = dry(0);
        Check.due("the first", 0, league.addTeam());
        Check.due("the second", 1, league.addTeam());
        league.pass(1);
        Check.due("the third, after an hour", 2, league.addTeam());
        league.endRound();
        Check.due("the fourth, after a round", 3, league.addTeam());
    }

    private static void fourTeams() {
        SandcastleLeague league = dry(3);
        Check.due("a fourth team", 3, league.addTeam());
        Check.dueThrow("a fifth team", league, Check.ISE, () -> league.addTeam());
        Check.dueThrow("a fifth team again", league, Check.ISE, () -> league.addTeam());
        league.pass(1);
        league.endRound();
        Check.dueThrow("a fifth team in another round", league, Check.ISE, () -> league.addTeam());
        Check.due("teams", 4, league.count(1));
    }

    // ---- promise 3

    private static void setTide() {
        Check.sentence("Promise 3", "Returns the level before", BoundaryDeedsTest::setTideReturnsTheLevelBefore);
        Check.sentence("Promise 3", "hour: an hour of the table, 0 to 11", BoundaryDeedsTest::hoursOfTheTable);
        Check.sentence("Promise 3", "Throws IndexOutOfBoundsException if hour is not 0 to 11",
            BoundaryDeedsTest::noHourOfTheTable);
        Check.sentence("Promise 3", "Throws IllegalArgumentException if level is not 0 to 30",
            BoundaryDeedsTest::noLevel);
    }

    private static void setTideReturnsTheLevelBefore() {
        SandcastleLeague league = withTeams(1);
        for (int h = 0; h < 12; h++) {
            Check.due("the level at first", FIRST_TIDES[h], league.setTide(h, h));
            Check.due("the level set", h, league.setTide(h, h));
            Check.due("the same level set", h, league.setTide(h, 30));
        }
        league.pass(12);
        league.endRound();
        for (int h = 0; h < 12; h++) {
            Check.due("the level set, hours later", 30, league.setTide(h, 0));
        }
    }

    private static void hoursOfTheTable() {
        for (int hour : new int[] {0, 11}) {
            SandcastleLeague league = withTeams(1);
            Check.due("the level", FIRST_TIDES[hour], league.setTide(hour, 25));
            int[] tides = FIRST_TIDES.clone();
            tides[hour] = 25;
            Check.due("the level of no other hour is set", digestOf(league, tides), league.digest());
        }
    }

    private static void noHourOfTheTable() {
        SandcastleLeague league = withTeams(1);
        for (int hour : new int[] {-1, 12, 13, -12, 24, MIN, MAX}) {
            Check.dueThrow("setTide(" + hour + ", 3)", league, Check.IOOBE, () -> league.setTide(hour, 3));
        }
        Check.due("the hour 0", 2, league.setTide(0, 3));
        Check.due("the hour 11", 1, league.setTide(11, 3));
    }

    private static void noLevel() {
        SandcastleLeague league = withTeams(1);
        for (int level : new int[] {-1, 31, 60, MIN, MAX}) {
            Check.dueThrow("setTide(4, " + level + ")", league, Check.IAE, () -> league.setTide(4, level));
        }
        Check.due("the level 0", 10, league.setTide(4, 0));
        Check.due("the level 30", 0, league.setTide(4, 30));
        Check.due("the level is 30", 30, league.setTide(4, 1));
    }

    // ---- promise 4

    private static void dig() {
        Check.sentence("Promise 4", "Digs sand into the bucket", BoundaryDeedsTest::digFillsTheBucket);
        Check.sentence("Promise 4", "the firmness of the cell is 0 then", BoundaryDeedsTest::digSoftens);
        Check.sentence("Promise 4", "(also if nothing was taken)", BoundaryDeedsTest::digSoftensIfNothingWasTaken);
        Check.sentence("Promise 4", "n: how much at most", BoundaryDeedsTest::digAtMostN);
        Check.sentence("Promise 4", "Returns how much was taken: at most what the cell has",
            BoundaryDeedsTest::digAtMostWhatTheCellHas);
        Check.sentence("Promise 4", "Returns how much was taken: .. and what the bucket can still hold",
            BoundaryDeedsTest::digAtMostWhatTheBucketHolds);
        errorsOf(4, 0);
        Check.sentence("Promise 4", "Throws IllegalArgumentException if .. n is not 1 to 5",
            BoundaryDeedsTest::digNoAmount);
    }

    private static void digFillsTheBucket() {
        SandcastleLeague league = dry(2);
        for (int n = 1; n <= 4; n++) {
            Check.due("dig " + n, n, league.dig(1, 4, n, n));
            cellIs(league, 4, n, 4 - n, 0, 2 * n + 4 - n, 0, 0, 0);
        }
        Check.due("the bucket", 10, league.team(1, 0));
        Check.due("the bucket of the other team", 0, league.team(0, 0));
        Check.due("all sand", 470, league.count(3));
        Check.due("none is lost to the sea", 0, league.count(4));
    }

    private static void digSoftens() {
        for (int firmness = 1; firmness <= 5; firmness++) {
            SandcastleLeague league = dry(1);
            pack(league, 0, 1, 4, firmness);
            pack(league, 0, 2, 4, 2);
            Check.due("dig 1 of 4", 1, league.dig(0, 1, 4, 1));
            cellIs(league, 1, 4, 3, 0);
            cellIs(league, 2, 4, 4, 2);
        }
    }

    private static void digSoftensIfNothingWasTaken() {
        SandcastleLeague full = dry(1);
        fillBucket(full, 0, 40);
        pack(full, 0, 1, 0, 3);
        Check.due("dig with a full bucket", 0, full.dig(0, 1, 0, 5));
        cellIs(full, 1, 0, 4, 0);

        SandcastleLeague bare = bareButFirm();
        Check.due("dig where no sand is", 0, bare.dig(0, 1, 0, 1));
        cellIs(bare, 1, 0, 0, 0);
        Check.due("the bucket", 0, bare.team(0, 0));
    }

    /** (1, 0) without sand, but with the firmness 3: the sea took the sand. */
    private static SandcastleLeague bareButFirm() {
        SandcastleLeague league = dry(1);
        pack(league, 0, 1, 0, 5);
        passAt(league, 16);
        cellIs(league, 1, 0, 1, 4);
        passAt(league, 16);
        cellIs(league, 1, 0, 0, 3, 0, 1);
        return league;
    }

    private static void digAtMostN() {
        SandcastleLeague league = dry(1);
        shave(league, 0, 15, 3);
        pile(league, 0, 1, 0, 6);
        int sand = 10;
        for (int n : new int[] {1, 2, 3}) {
            Check.due("dig " + n, n, league.dig(0, 1, 0, n));
            sand -= n;
            Check.due("sand", sand, league.cell(1, 0, 0));
        }
        pile(league, 0, 1, 0, 6);
        Check.due("dig 4 of 10", 4, league.dig(0, 1, 0, 4));
        Check.due("dig 5 of 6", 5, league.dig(0, 1, 0, 5));
        Check.due("sand", 1, league.cell(1, 0, 0));
    }

    private static void digAtMostWhatTheCellHas() {
        for (int sand = 0; sand <= 5; sand++) {
            for (int n = 1; n <= 5; n++) {
                SandcastleLeague league = dry(1);
                league.dig(0, 0, 4, 1);
                if (sand < 4) {
                    league.dig(0, 1, 4, 4 - sand);
                } else {
                    pile(league, 0, 1, 4, sand - 4);
                }
                Check.due("dig " + n + " of " + sand, Math.min(n, sand), league.dig(0, 1, 4, n));
                Check.due("what is left", Math.max(sand - n, 0), league.cell(1, 4, 0));
            }
        }
    }

    private static void digAtMostWhatTheBucketHolds() {
        for (int left = 0; left <= 5; left++) {
            SandcastleLeague league = dry(1);
            league.dig(0, 0, 4, 1);
            league.pile(0, 1, 4, 1);
            fillBucket(league, 0, 40 - left);
            Check.due("dig 5 with " + left + " left", left, league.dig(0, 1, 4, 5));
            Check.due("the bucket", 40, league.team(0, 0));
            Check.due("what is left", 5 - left, league.cell(1, 4, 0));
        }
        SandcastleLeague both = dry(1);
        fillBucket(both, 0, 38);
        both.pile(0, 0, 0, 1);
        both.dig(0, 1, 0, 3);
        Check.due("dig 5 of 4 with 0 left", 0, both.dig(0, 2, 0, 5));
        both.pile(0, 0, 0, 3);
        Check.due("dig 5 of 1 with 3 left", 1, both.dig(0, 1, 0, 5));
        Check.due("the bucket", 38, both.team(0, 0));
    }

    private static void digNoAmount() {
        SandcastleLeague league = dry(1);
        for (int n : NO_AMOUNTS) {
            Check.dueThrow("dig " + n, league, Check.IAE, () -> league.dig(0, 0, 0, n));
        }
        Check.due("dig 1", 1, league.dig(0, 0, 0, 1));
        Check.due("dig 5", 4, league.dig(0, 1, 0, 5));
    }

    // ---- promise 5

    private static void pile() {
        Check.sentence("Promise 5", "Piles sand out of the bucket on a cell", BoundaryDeedsTest::pileMovesSand);
        Check.sentence("Promise 5", "its firmness is 1 less then, if it is greater than 0",
            BoundaryDeedsTest::pileSoftens);
        Check.sentence("Promise 5", "its firmness is 1 less then, if .. something was piled",
            BoundaryDeedsTest::pileOfNothingSoftensNothing);
        Check.sentence("Promise 5", "n: how much at most", BoundaryDeedsTest::pileAtMostN);
        Check.sentence("Promise 5", "Returns how much was piled: at most what the bucket holds",
            BoundaryDeedsTest::pileAtMostTheBucket);
        Check.sentence("Promise 5", "Returns how much was piled: .. and what the cell can still have",
            BoundaryDeedsTest::pileAtMostWhatTheCellCanHave);
        errorsOf(5, 1);
        Check.sentence("Promise 5", "Throws IllegalArgumentException if .. n is not 1 to 5",
            BoundaryDeedsTest::pileNoAmount);
    }

    private static void pileMovesSand() {
        SandcastleLeague league = dry(2);
        league.dig(1, 3, 0, 4);
        league.dig(0, 0, 0, 3);
        Check.due("pile 3", 3, league.pile(1, 5, 9, 3));
        cellIs(league, 5, 9, 7, 0, 25, 0, 0, 0);
        Check.due("the bucket", 1, league.team(1, 0));
        Check.due("the bucket of the other team", 3, league.team(0, 0));
        Check.due("all sand", 476, league.count(3));
    }

    private static void pileSoftens() {
        for (int firmness = 0; firmness <= 5; firmness++) {
            for (int n : new int[] {1, 5}) {
                SandcastleLeague league = dry(1);
                league.dig(0, 0, 0, 4);
                league.dig(0, 1, 0, 4);
                pack(league, 0, 1, 9, firmness);
                pack(league, 0, 2, 9, 2);
                Check.due("pile " + n, n, league.pile(0, 1, 9, n));
                cellIs(league, 1, 9, 4 + n, Math.max(firmness - 1, 0));
                cellIs(league, 2, 9, 4, 2);
            }
        }
    }

    private static void pileOfNothingSoftensNothing() {
        SandcastleLeague empty = dry(1);
        pack(empty, 0, 1, 9, 3);
        Check.due("pile out of an empty bucket", 0, empty.pile(0, 1, 9, 5));
        cellIs(empty, 1, 9, 4, 3);

        SandcastleLeague full = dry(1);
        fillBucket(full, 0, 20);
        pile(full, 0, 1, 9, 16);
        pack(full, 0, 1, 9, 3);
        Check.due("pile on a full cell", 0, full.pile(0, 1, 9, 5));
        cellIs(full, 1, 9, 20, 3);
        Check.due("the bucket", 4, full.team(0, 0));
    }

    private static void pileAtMostN() {
        SandcastleLeague league = dry(1);
        fillBucket(league, 0, 20);
        int sand = 4;
        for (int n = 1; n <= 5; n++) {
            Check.due("pile " + n, n, league.pile(0, 1, 0, n));
            sand += n;
            Check.due("sand", sand, league.cell(1, 0, 0));
        }
        Check.due("the bucket", 5, league.team(0, 0));
    }

    private static void pileAtMostTheBucket() {
        for (int held = 0; held <= 5; held++) {
            for (int n = 1; n <= 5; n++) {
                SandcastleLeague league = dry(1);
                fillBucket(league, 0, held);
                int piled = Math.min(n, held);
                Check.due("pile " + n + " of " + held, piled, league.pile(0, 1, 0, n));
                Check.due("the bucket", held - piled, league.team(0, 0));
                Check.due("sand", 4 + piled, league.cell(1, 0, 0));
            }
        }
    }

    private static void pileAtMostWhatTheCellCanHave() {
        for (int room = 0; room <= 5; room++) {
            SandcastleLeague league = dry(1);
            fillBucket(league, 0, 24);
            pile(league, 0, 1, 0, 16 - room);
            Check.due("pile 5 with room for " + room, room, league.pile(0, 1, 0, 5));
            Check.due("sand", 20, league.cell(1, 0, 0));
            Check.due("the bucket", 8, league.team(0, 0));
        }
        SandcastleLeague both = dry(1);
        fillBucket(both, 0, 15);
        pile(both, 0, 1, 0, 13);
        Check.due("pile 5 of 2 with room for 3", 2, both.pile(0, 1, 0, 5));
        Check.due("sand", 19, both.cell(1, 0, 0));
    }

    private static void pileNoAmount() {
        SandcastleLeague league = dry(1);
        fillBucket(league, 0, 8);
        for (int n : NO_AMOUNTS) {
            Check.dueThrow("pile " + n, league, Check.IAE, () -> league.pile(0, 0, 0, n));
        }
        Check.due("pile 1", 1, league.pile(0, 0, 0, 1));
        Check.due("pile 5", 5, league.pile(0, 0, 0, 5));
    }

    // ---- promise 6

    private static void pack() {
        Check.sentence("Promise 6", "its firmness is 1 more", BoundaryDeedsTest::packHardens);
        Check.sentence("Promise 6", "at most 5", BoundaryDeedsTest::packAtMostFive);
        Check.sentence("Promise 6", "not, if it has no sand", BoundaryDeedsTest::packNoSand);
        Check.sentence("Promise 6", "not, if it .. is under water", BoundaryDeedsTest::packUnderWater);
        Check.sentence("Promise 6", "Returns its firmness then", BoundaryDeedsTest::packReturnsTheFirmness);
        errorsOf(6, 2);
    }

    private static void packHardens() {
        SandcastleLeague league = dry(2);
        for (int firmness = 1; firmness <= 5; firmness++) {
            league.pack(1, 4, 9);
            cellIs(league, 4, 9, 4, firmness, 22, 0, 0, 0);
        }
        cellIs(league, 3, 9, 4, 0);
        cellIs(league, 4, 8, 4, 0);
    }

    private static void packAtMostFive() {
        SandcastleLeague league = dry(1);
        pack(league, 0, 1, 9, 4);
        Check.due("packed 5 times", 5, league.pack(0, 1, 9));
        Check.due("packed 6 times", 5, league.pack(0, 1, 9));
        Check.due("packed 7 times", 5, league.pack(0, 1, 9));
        Check.due("firmness", 5, league.cell(1, 9, 1));
        Check.due("strength", 13, league.team(0, 1));
    }

    private static void packNoSand() {
        SandcastleLeague dug = dry(1);
        dug.dig(0, 1, 9, 4);
        Check.due("packed without sand", 0, dug.pack(0, 1, 9));
        Check.due("firmness", 0, dug.cell(1, 9, 1));
        Check.due("strength", 18, dug.team(0, 1));
        dug.pile(0, 1, 9, 1);
        Check.due("packed with 1 sand", 1, dug.pack(0, 1, 9));

        SandcastleLeague bare = bareButFirm();
        passAt(bare, 0);
        // On dry land again; the row 1 at 6 less what it lost did not slide on it.
        cellIs(bare, 1, 0, 0, 3, 0, 0);
        Check.due("packed without sand, but firm", 3, bare.pack(0, 1, 0));
        Check.due("firmness", 3, bare.cell(1, 0, 1));
    }

    private static void packUnderWater() {
        SandcastleLeague league = dry(1);
        pack(league, 0, 1, 0, 3);
        passAt(league, 5);
        cellIs(league, 0, 0, 3, 0, 3, 1);
        cellIs(league, 1, 0, 4, 2, 4, 1);
        Check.due("packed soft under water", 0, league.pack(0, 0, 0));
        Check.due("packed firm under water", 2, league.pack(0, 1, 0));
        Check.due("firmness", 0, league.cell(0, 0, 1));
        Check.due("firmness", 2, league.cell(1, 0, 1));
        Check.due("strength", 18, league.team(0, 1));
        Check.due("packed beside the water", 1, league.pack(0, 1, 1));
        passAt(league, 0);
        Check.due("packed on dry land", 3, league.pack(0, 1, 0));
    }

    private static void packReturnsTheFirmness() {
        SandcastleLeague league = dry(1);
        pack(league, 0, 1, 9, 3);
        Check.due("packed 4 times", 4, league.pack(0, 1, 9));
        league.dig(0, 0, 9, 1);
        league.pile(0, 1, 9, 1);
        Check.due("packed after a pile", 4, league.pack(0, 1, 9));
        league.dig(0, 1, 9, 1);
        Check.due("packed after a dig", 1, league.pack(0, 1, 9));
        Check.due("another cell", 1, league.pack(0, 2, 9));
    }

    // ---- promise 7

    private static void plant() {
        Check.sentence("Promise 7", "Has a stick planted on a cell", BoundaryDeedsTest::plantPutsAStick);
        Check.sentence("Promise 7", "Returns how many sticks of the team stand then",
            BoundaryDeedsTest::plantReturnsTheSticks);
        errorsOf(7, 3);
        Check.sentence("Promise 7", "Throws IllegalStateException if .. 3 sticks of it stand",
            BoundaryDeedsTest::threeSticksStand);
        Check.sentence("Promise 7", "Throws IllegalStateException if .. there is one on the cell",
            BoundaryDeedsTest::thereIsOne);
        Check.sentence("Promise 7", "Throws IllegalStateException if .. the cell is under water",
            BoundaryDeedsTest::plantUnderWater);
    }

    private static void plantPutsAStick() {
        SandcastleLeague league = dry(4);
        league.plant(0, 0, 0);
        cellIs(league, 0, 0, 4, 0, 4, 0, 1, 4);
        league.plant(3, 11, 9);
        cellIs(league, 11, 9, 4, 0, 22, 0, 1, 22);
        cellIs(league, 11, 8, 4, 0, 20, 0, 0, 0);
        Check.due("sticks", 2, league.count(6));
        league.dig(1, 3, 0, 4);
        league.plant(1, 3, 0);
        cellIs(league, 3, 0, 0, 0, 0, 0, 1, 0);
        pack(league, 2, 6, 5, 5);
        league.plant(2, 6, 5);
        cellIs(league, 6, 5, 4, 5, 14, 0, 1, 14);
    }

    private static void plantReturnsTheSticks() {
        SandcastleLeague league = dry(2);
        Check.due("the first", 1, league.plant(0, 0, 0));
        Check.due("the first of the other team", 1, league.plant(1, 3, 0));
        Check.due("the second", 2, league.plant(0, 1, 9));
        passAt(league, 5);
        Check.due("fallen", 2, league.count(7));
        Check.due("the second again", 2, league.plant(0, 2, 9));
        Check.due("the third", 3, league.plant(0, 0, 9));
        Check.due("the first again of the other team", 1, league.plant(1, 3, 9));
    }

    private static void threeSticksStand() {
        SandcastleLeague league = dry(2);
        league.plant(0, 0, 0);
        league.plant(0, 1, 9);
        Check.due("a third one", 3, league.plant(0, 2, 9));
        Check.dueThrow("a fourth one", league, Check.ISE, () -> league.plant(0, 0, 9));
        for (int y = 1; y <= 3; y++) {
            Check.due("the other team", y, league.plant(1, 3, y));
        }
        passAt(league, 5);
        Check.due("one fell", 2, league.team(0, 3));
        Check.due("a third one again", 3, league.plant(0, 0, 9));
        Check.dueThrow("a fourth one again", league, Check.ISE, () -> league.plant(0, 0, 8));
    }

    private static void thereIsOne() {
        SandcastleLeague league = dry(1);
        league.plant(0, 1, 9);
        Check.dueThrow("on a stick", league, Check.ISE, () -> league.plant(0, 1, 9));
        league.dig(0, 1, 9, 2);
        Check.dueThrow("on a stick that will fall", league, Check.ISE, () -> league.plant(0, 1, 9));
        Check.due("beside it", 2, league.plant(0, 1, 8));
        league.pass(1);
        Check.due("where one fell", 2, league.plant(0, 1, 9));
        Check.due("the height", 20, league.cell(1, 9, 5));

        SandcastleLeague low = dry(1);
        low.dig(0, 1, 0, 4);
        low.plant(0, 1, 0);
        Check.dueThrow("on a stick of the height 0", low, Check.ISE, () -> low.plant(0, 1, 0));
    }

    private static void plantUnderWater() {
        SandcastleLeague league = dry(1);
        passAt(league, 5);
        Check.dueThrow("under water", league, Check.ISE, () -> league.plant(0, 1, 0));
        league.dig(0, 1, 9, 4);
        pile(league, 0, 1, 0, 4);
        Check.dueThrow("above the level, but till the next hour under water", league, Check.ISE,
            () -> league.plant(0, 1, 0));
        Check.due("beside the water", 1, league.plant(0, 1, 1));
        passAt(league, 5);
        Check.due("an hour later", 2, league.plant(0, 1, 0));
        passAt(league, 0);
        Check.due("on dry land", 3, league.plant(0, 0, 0));
    }
}
