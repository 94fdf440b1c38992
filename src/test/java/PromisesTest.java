/** Each promise by itself, with answers worked out by hand from the document. */
final class PromisesTest extends TestKit {
    private PromisesTest() {
    }

    public static void main(String[] args) {
        newObject();
        addTeam();
        setTide();
        dig();
        digWrongly();
        pile();
        pileWrongly();
        pack();
        packWrongly();
        plant();
        plantWrongly();
        cell();
        team();
        count();
        pass();
        water();
        erosion();
        slides();
        slideWays();
        slideOrder();
        sticks();
        endRound();
        leader();
        flood();
        reach();
        foresee();
        advise();
        adviseWrongly();
        mean();
        digest();
        Check.finish("PromisesTest");
    }

    // ---- promise 1

    private static void newObject() {
        SandcastleLeague league = new SandcastleLeague();
        counts("new", league, 0, 0, 0, 480, 0, 0, 0, 0, 0);
        for (int y = 0; y < 10; y++) {
            for (int x = 0; x < 12; x++) {
                cellIs(league, x, y, 4, 0, 2 * y + 4, 0, 0, 0);
            }
        }
        Check.dueThrow("team of a new object", league, Check.IOOBE, () -> league.team(0, 0));
        Check.dueThrow("leader of a new object", league, Check.IOOBE, () -> league.leader(0));
        SandcastleLeague other = withTeams(1);
        other.setTide(0, 30);
        other.dig(0, 0, 0, 1);
        other.pass(1);
        counts("another object passed", league, 0, 0, 0, 480, 0, 0, 0, 0, 0);
        Check.due("its own tide", 2, league.setTide(0, 2));
    }

    // ---- promise 2

    private static void addTeam() {
        SandcastleLeague league = new SandcastleLeague();
        for (int t = 0; t < 4; t++) {
            Check.due("addTeam()", t, league.addTeam());
            Check.due("teams", t + 1, league.count(1));
            teamIs("new team", league, t, 0, 20, 0, 0, 120, 22, 0, 0);
        }
        Check.dueThrow("a fifth team", league, Check.ISE, () -> league.addTeam());

        SandcastleLeague late = withTeams(1);
        late.pass(3);
        Check.due("a late team", 1, late.addTeam());
        // Level 7 in the hour 2: the rows 0 and 1 lost 2 and 1 in three columns.
        teamIs("a late team", late, 1, 0, 20, 0, 0, 111, 22, 6, 0);
    }

    // ---- promise 3

    private static void setTide() {
        SandcastleLeague league = new SandcastleLeague();
        for (int h = 0; h < 12; h++) {
            Check.due("first tide " + h, FIRST_TIDES[h], league.setTide(h, 30 - h));
        }
        for (int h = 0; h < 12; h++) {
            Check.due("tide set " + h, 30 - h, league.setTide(h, 0));
        }
        for (int hour : new int[] {-1, 12, MIN, MAX}) {
            Check.dueThrow("setTide(" + hour + ", 1)", league, Check.IOOBE, () -> league.setTide(hour, 1));
            Check.dueThrow("setTide(" + hour + ", 31)", league, Check.IOOBE, () -> league.setTide(hour, 31));
        }
        for (int level : new int[] {-1, 31, MIN, MAX}) {
            Check.dueThrow("setTide(0, " + level + ")", league, Check.IAE, () -> league.setTide(0, level));
            Check.dueThrow("setTide(11, " + level + ")", league, Check.IAE, () -> league.setTide(11, level));
        }
        league.setTide(1, 30);
        league.pass(1);
        Check.due("water at level 0", 0, league.count(2));
        league.pass(1);
        Check.due("water at level 30", 120, league.count(2));
        league.pass(11);
        Check.due("water in the hour 12", 0, league.count(2));
        league.pass(1);
        Check.due("water in the hour 13, that of 1", 120, league.count(2));
    }

    // ---- promise 4

    private static void dig() {
        SandcastleLeague league = withTeams(2);
        Check.due("dig 3", 3, league.dig(0, 1, 5, 3));
        cellIs(league, 1, 5, 1, 0, 11);
        Check.due("dig more than there is", 1, league.dig(0, 1, 5, 5));
        Check.due("dig where nothing is", 0, league.dig(0, 1, 5, 1));
        cellIs(league, 1, 5, 0, 0, 10);
        teamIs("after three digs", league, 0, 4, 17, 0, 0, 116);
        teamIs("the other team", league, 1, 0, 20, 0, 0, 120);
        Check.due("dig of team 1", 4, league.dig(1, 3, 0, 4));

        league.pack(0, 0, 9);
        league.pack(0, 0, 9);
        Check.due("dig a packed cell", 1, league.dig(0, 0, 9, 1));
        cellIs(league, 0, 9, 3, 0);

        SandcastleLeague full = withTeams(1);
        fillBucket(full, 0, 38);
        Check.due("dig as the bucket holds", 2, full.dig(0, 0, 0, 5));
        full.pack(0, 1, 0);
        Check.due("packed", 1, full.cell(1, 0, 1));
        Check.due("dig with a full bucket", 0, full.dig(0, 1, 0, 5));
        cellIs(full, 1, 0, 4, 0);
        // Ten digs for 38, and three deeds.
        teamIs("full", full, 0, 40, 7);

        SandcastleLeague wet = withTeams(1);
        tidesFrom(wet, 5);
        wet.pass(1);
        Check.due("dig under water", 3, wet.dig(0, 0, 0, 5));
        cellIs(wet, 0, 0, 0, 0, 0, 1);
    }

    private static void digWrongly() {
        SandcastleLeague league = withTeams(2);
        for (int t : new int[] {-1, 2, 4, MIN, MAX}) {
            Check.dueThrow("dig of team " + t, league, Check.IOOBE, () -> league.dig(t, 0, 0, 1));
            Check.dueThrow("dig, all wrong, " + t, league, Check.IOOBE, () -> league.dig(t, -1, -1, 0));
        }
        int[][] outside = {{-1, 0}, {3, 0}, {12, 0}, {0, -1}, {0, 10}, {MIN, 0}, {MAX, 0}, {0, MIN}, {0, MAX},
            {-12, 1}, {12, -1}, {24, -2}, {0, 357913942}};
        for (int[] at : outside) {
            Check.dueThrow("dig at " + at[0] + ", " + at[1], league, Check.IAE, () -> league.dig(0, at[0], at[1], 1));
        }
        Check.dueThrow("dig beside the area of team 1", league, Check.IAE, () -> league.dig(1, 2, 0, 1));
        Check.dueThrow("dig behind the area of team 1", league, Check.IAE, () -> league.dig(1, 6, 0, 1));
        for (int n : new int[] {0, 6, -1, MIN, MAX}) {
            Check.dueThrow("dig n " + n, league, Check.IAE, () -> league.dig(0, 0, 0, n));
        }
        for (int d = 0; d < 20; d++) {
            league.dig(0, 0, 0, 1);
        }
        Check.due("no strength", 0, league.team(0, 1));
        Check.dueThrow("dig without strength", league, Check.ISE, () -> league.dig(0, 1, 1, 1));
        Check.dueThrow("dig outside without strength", league, Check.IAE, () -> league.dig(0, 3, 1, 1));
        Check.dueThrow("dig n without strength", league, Check.IAE, () -> league.dig(0, 1, 1, 6));
        Check.due("dig of the other team", 1, league.dig(1, 5, 9, 1));
        league.setTide(0, 0);
        league.pass(1);
        Check.due("dig an hour later", 1, league.dig(0, 1, 1, 1));
        Check.due("strength then", 19, league.team(0, 1));
    }

    // ---- promise 5

    private static void pile() {
        SandcastleLeague league = withTeams(1);
        Check.due("pile out of nothing", 0, league.pile(0, 0, 0, 5));
        Check.due("strength", 19, league.team(0, 1));
        league.dig(0, 0, 9, 4);
        league.dig(0, 1, 9, 3);
        Check.due("pile 5", 5, league.pile(0, 2, 4, 5));
        Check.due("pile what the bucket holds", 2, league.pile(0, 2, 4, 4));
        cellIs(league, 2, 4, 11, 0, 19);
        teamIs("piled", league, 0, 0, 15, 0, 0, 120, 22);

        SandcastleLeague high = withTeams(1);
        fillBucket(high, 0, 24);
        Check.due("pile 1", 5, high.pile(0, 0, 2, 5));
        Check.due("pile 2", 5, high.pile(0, 0, 2, 5));
        Check.due("pile 3", 5, high.pile(0, 0, 2, 5));
        high.pack(0, 0, 2);
        high.pack(0, 0, 2);
        high.pack(0, 0, 2);
        Check.due("pile to 20", 1, high.pile(0, 0, 2, 5));
        cellIs(high, 0, 2, 20, 2, 24);
        Check.due("pile on 20", 0, high.pile(0, 0, 2, 5));
        cellIs(high, 0, 2, 20, 2, 24);
        teamIs("left", high, 0, 8, 6);
        Check.due("pile on a soft cell", 3, high.pile(0, 1, 2, 3));
        cellIs(high, 1, 2, 7, 0, 11);
        Check.due("bucket", 5, high.team(0, 0));

        SandcastleLeague empty = withTeams(1);
        empty.pack(0, 0, 0);
        Check.due("pile nothing on a packed cell", 0, empty.pile(0, 0, 0, 1));
        Check.due("it stays packed", 1, empty.cell(0, 0, 1));
    }

    private static void pileWrongly() {
        SandcastleLeague league = withTeams(2);
        league.dig(0, 0, 0, 4);
        for (int t : new int[] {-1, 2, 4, MIN, MAX}) {
            Check.dueThrow("pile of team " + t, league, Check.IOOBE, () -> league.pile(t, 0, 0, 1));
            Check.dueThrow("pile, all wrong, " + t, league, Check.IOOBE, () -> league.pile(t, -1, -1, 0));
        }
        int[][] outside = {{-1, 0}, {3, 0}, {12, 0}, {0, -1}, {0, 10}, {MIN, 0}, {MAX, 0}, {0, MIN}, {0, MAX}};
        for (int[] at : outside) {
            Check.dueThrow("pile at " + at[0] + ", " + at[1], league, Check.IAE,
                () -> league.pile(0, at[0], at[1], 1));
        }
        for (int n : new int[] {0, 6, -1, MIN, MAX}) {
            Check.dueThrow("pile n " + n, league, Check.IAE, () -> league.pile(0, 0, 0, n));
        }
        for (int d = 0; d < 19; d++) {
            league.pile(0, 0, 0, 1);
        }
        Check.dueThrow("pile without strength", league, Check.ISE, () -> league.pile(0, 1, 1, 1));
        Check.dueThrow("pile outside without strength", league, Check.IAE, () -> league.pile(0, 3, 1, 1));
        Check.dueThrow("pile n without strength", league, Check.IAE, () -> league.pile(0, 1, 1, 0));
    }

    // ---- promise 6

    private static void pack() {
        SandcastleLeague league = withTeams(1);
        for (int f = 1; f <= 5; f++) {
            Check.due("pack", f, league.pack(0, 2, 9));
        }
        Check.due("pack at most", 5, league.pack(0, 2, 9));
        cellIs(league, 2, 9, 4, 5, 22);
        Check.due("strength", 14, league.team(0, 1));
        league.dig(0, 1, 9, 4);
        Check.due("pack no sand", 0, league.pack(0, 1, 9));
        Check.due("strength", 12, league.team(0, 1));
        league.dig(0, 0, 9, 3);
        Check.due("pack the last sand", 1, league.pack(0, 0, 9));

        tidesFrom(league, 5);
        league.pack(0, 0, 0);
        league.pack(0, 0, 0);
        league.pass(1);
        // Level 5 above 4: 1 sand less, less half of 2; and 1 firmness less.
        cellIs(league, 0, 0, 4, 1, 4, 1);
        Check.due("pack under water", 1, league.pack(0, 0, 0));
        Check.due("strength", 19, league.team(0, 1));
        league.pass(1);
        Check.due("pack on dry land again", 2, league.pack(0, 0, 0));
    }

    private static void packWrongly() {
        SandcastleLeague league = withTeams(2);
        for (int t : new int[] {-1, 2, 4, MIN, MAX}) {
            Check.dueThrow("pack of team " + t, league, Check.IOOBE, () -> league.pack(t, 0, 0));
            Check.dueThrow("pack, all wrong, " + t, league, Check.IOOBE, () -> league.pack(t, -1, -1));
        }
        int[][] outside = {{-1, 0}, {3, 0}, {12, 0}, {0, -1}, {0, 10}, {MIN, 0}, {MAX, 0}, {0, MIN}, {0, MAX}};
        for (int[] at : outside) {
            Check.dueThrow("pack at " + at[0] + ", " + at[1], league, Check.IAE, () -> league.pack(0, at[0], at[1]));
        }
        for (int d = 0; d < 20; d++) {
            league.pack(0, 0, 0);
        }
        Check.dueThrow("pack without strength", league, Check.ISE, () -> league.pack(0, 1, 1));
        Check.dueThrow("pack outside without strength", league, Check.IAE, () -> league.pack(0, 3, 1));
    }

    // ---- promise 7

    private static void plant() {
        SandcastleLeague league = withTeams(4);
        Check.due("plant 1", 1, league.plant(3, 9, 9));
        Check.due("plant 2", 2, league.plant(3, 11, 0));
        Check.due("plant of another team", 1, league.plant(2, 8, 0));
        Check.due("plant 3", 3, league.plant(3, 10, 4));
        cellIs(league, 9, 9, 4, 0, 22, 0, 1, 22);
        cellIs(league, 11, 0, 4, 0, 4, 0, 1, 4);
        cellIs(league, 10, 4, 4, 0, 12, 0, 1, 12);
        cellIs(league, 11, 4, 4, 0, 12, 0, 0, 0);
        teamIs("planted", league, 3, 0, 17, 0, 3);
        teamIs("planted", league, 2, 0, 19, 0, 1);
        Check.due("sticks", 4, league.count(6));

        SandcastleLeague low = withTeams(1);
        low.dig(0, 0, 0, 4);
        Check.due("plant at the height 0", 1, low.plant(0, 0, 0));
        cellIs(low, 0, 0, 0, 0, 0, 0, 1, 0);
        Check.dueThrow("there is one, at the height 0", low, Check.ISE, () -> low.plant(0, 0, 0));
        low.plant(0, 1, 9);
        low.dig(0, 1, 9, 4);
        cellIs(low, 1, 9, 0, 0, 18, 0, 1, 22);
    }

    private static void plantWrongly() {
        SandcastleLeague league = withTeams(2);
        for (int t : new int[] {-1, 2, 4, MIN, MAX}) {
            Check.dueThrow("plant of team " + t, league, Check.IOOBE, () -> league.plant(t, 0, 0));
            Check.dueThrow("plant, all wrong, " + t, league, Check.IOOBE, () -> league.plant(t, -1, -1));
        }
        int[][] outside = {{-1, 0}, {3, 0}, {12, 0}, {0, -1}, {0, 10}, {MIN, 0}, {MAX, 0}, {0, MIN}, {0, MAX}};
        for (int[] at : outside) {
            Check.dueThrow("plant at " + at[0] + ", " + at[1], league, Check.IAE,
                () -> league.plant(0, at[0], at[1]));
        }
        league.plant(0, 0, 8);
        Check.dueThrow("plant beside a stick on the cell", league, Check.ISE, () -> league.plant(0, 0, 8));
        league.plant(0, 1, 8);
        league.plant(0, 2, 8);
        Check.dueThrow("plant a fourth", league, Check.ISE, () -> league.plant(0, 0, 9));
        Check.dueThrow("plant a fourth outside", league, Check.IAE, () -> league.plant(0, 3, 9));
        for (int d = 0; d < 20; d++) {
            league.pack(1, 3, 9);
        }
        Check.dueThrow("plant without strength", league, Check.ISE, () -> league.plant(1, 3, 9));
        Check.dueThrow("plant outside without strength", league, Check.IAE, () -> league.plant(1, 2, 9));
        tidesFrom(league, 5);
        league.pass(1);
        Check.dueThrow("plant under water", league, Check.ISE, () -> league.plant(1, 3, 0));
        Check.due("plant beside the water", 1, league.plant(1, 3, 1));
    }

    // ---- promise 8

    private static void cell() {
        SandcastleLeague league = withTeams(4);
        league.pack(3, 11, 9);
        league.dig(3, 11, 9, 1);
        league.pack(3, 11, 9);
        league.plant(3, 11, 9);
        league.dig(3, 11, 9, 1);
        league.pack(3, 11, 9);
        league.pack(3, 11, 9);
        cellIs(league, 11, 9, 2, 2, 20, 0, 1, 21);
        cellIs(league, 0, 0, 4, 0, 4, 0, 0, 0);
        tidesFrom(league, 5);
        league.pass(1);
        cellIs(league, 0, 0, 3, 0, 3, 1, 0, 0);
        cellIs(league, 0, 1, 4, 0, 6, 0, 0, 0);
        int[][] wrong = {{-1, 0, 0}, {12, 0, 0}, {0, -1, 0}, {0, 10, 0}, {0, 0, -1}, {0, 0, 6}, {MIN, 0, 0},
            {MAX, 0, 0}, {0, MIN, 0}, {0, MAX, 0}, {0, 0, MIN}, {0, 0, MAX}, {-12, 1, 0}, {12, -1, 0},
            {0, 357913942, 0}, {-1, -1, -1}};
        for (int[] w : wrong) {
            Check.dueThrow("cell(" + w[0] + ", " + w[1] + ", " + w[2] + ")", league, Check.IOOBE,
                () -> league.cell(w[0], w[1], w[2]));
        }
    }

    // ---- promise 9

    private static void team() {
        SandcastleLeague league = withTeams(2);
        league.dig(1, 3, 9, 4);
        league.dig(1, 4, 9, 4);
        league.pile(1, 5, 9, 2);
        league.plant(1, 5, 9);
        league.plant(1, 3, 1);
        tidesFrom(league, 5, 0, 8);
        teamIs("now", league, 1, 6, 15, 0, 2, 114, 24, 0, 0);
        teamIs("now", league, 0, 0, 20, 0, 0, 120, 22, 0, 0);
        league.pass(1);
        // The row 0 lost 1 in each column, and the top slid once on a hole. With the 5 sand that
        // are left there its stick brings 2 points, the one below 1.
        teamIs("after an hour", league, 1, 6, 20, 3, 2, 111, 23, 3, 0);
        teamIs("after an hour", league, 0, 0, 20, 0, 0, 117, 22, 3, 0);
        league.pass(2);
        // Level 0: 3 points more. Level 8: the row 0 at 3 loses 2, the row 1 at 6 loses 1; the row 2 is at 8.
        teamIs("after three hours", league, 1, 6, 20, 8, 1, 102, 23, 6, 0);
        teamIs("after three hours", league, 0, 0, 20, 0, 0, 108, 22, 6, 0);
        league.endRound();
        teamIs("after the round", league, 1, 0, 20, 0, 0, 120, 22, 0, 1);
        for (int t : new int[] {-1, 2, 4, MIN, MAX}) {
            Check.dueThrow("team(" + t + ", 0)", league, Check.IOOBE, () -> league.team(t, 0));
        }
        for (int what : new int[] {-1, 8, MIN, MAX}) {
            Check.dueThrow("team(0, " + what + ")", league, Check.IOOBE, () -> league.team(0, what));
        }
    }

    // ---- promise 10

    private static void count() {
        SandcastleLeague league = withTeams(3);
        league.dig(2, 8, 9, 3);
        league.pile(2, 7, 9, 3);
        league.plant(2, 6, 0);
        league.plant(2, 6, 9);
        league.plant(0, 0, 9);
        tidesFrom(league, 5, 0);
        counts("now", league, 0, 3, 0, 480, 0, 0, 3, 0, 0);
        league.pass(1);
        // The heights 25 and 19 are side by side: one slide.
        counts("after an hour", league, 1, 3, 12, 468, 12, 1, 2, 1, 0);
        league.pass(1);
        counts("after two", league, 2, 3, 0, 468, 12, 0, 2, 1, 0);
        league.endRound();
        counts("after the round", league, 2, 3, 0, 480, 0, 0, 0, 0, 1);
        for (int what : new int[] {-1, 9, MIN, MAX}) {
            Check.dueThrow("count(" + what + ")", league, Check.IOOBE, () -> league.count(what));
        }
    }

    // ---- promise 11

    private static void pass() {
        SandcastleLeague league = withTeams(1);
        league.plant(0, 0, 0);
        league.plant(0, 1, 1);
        league.plant(0, 2, 2);
        Check.due("hours 0, 1", 0, league.pass(2));
        counts("levels 2, 4", league, 2, 1, 0, 480, 0, 0, 3, 0, 0);
        Check.due("hours 2, 3", 3, league.pass(2));
        // Level 7 takes 2 from the row 0 and 1 from the row 1; level 9 takes 2, 2 and 1.
        counts("levels 7, 9", league, 4, 1, 36, 384, 96, 0, 0, 3, 0);
        Check.due("points", 2 + 2 + 3, league.team(0, 2));
        Check.due("more hours", 0, league.pass(48));
        Check.due("the hour", 52, league.count(0));
        for (int hours : new int[] {0, 49, -1, MIN, MAX}) {
            Check.dueThrow("pass(" + hours + ")", league, Check.IAE, () -> league.pass(hours));
        }

        SandcastleLeague byOne = withTeams(1);
        SandcastleLeague atOnce = withTeams(1);
        for (int h = 0; h < 48; h++) {
            byOne.pass(1);
        }
        atOnce.pass(48);
        Check.due("hours one by one and at once", byOne.digest(), atOnce.digest());

        SandcastleLeague nobody = new SandcastleLeague();
        Check.due("hours without teams", 0, nobody.pass(3));
        counts("hours without teams", nobody, 3, 0, 24, 444, 36, 0, 0, 0, 0);
    }

    private static void water() {
        SandcastleLeague league = withTeams(1);
        // A hollow behind the row 4, of the height 10, and one at its corner.
        league.dig(0, 1, 5, 4);
        league.dig(0, 2, 6, 4);
        tidesFrom(league, 12, 0, 13);
        league.pass(1);
        Check.due("level 12: the rows 0 to 3", 48, league.count(2));
        Check.due("the hollow is dry", 0, league.cell(1, 5, 3));
        league.pass(1);
        Check.due("level 0", 0, league.count(2));
        league.pass(1);
        Check.due("level 13: the hollow", 1, league.cell(1, 5, 3));
        Check.due("its corner", 0, league.cell(2, 6, 3));
        Check.due("all", 61, league.count(2));
        league.pass(1);
        Check.due("the water goes", 0, league.count(2));
    }

    private static void erosion() {
        SandcastleLeague league = withTeams(1);
        for (int f = 0; f < 5; f++) {
            league.pack(0, 0, 0);
        }
        for (int f = 0; f < 3; f++) {
            league.pack(0, 1, 0);
        }
        league.pack(0, 0, 1);
        tidesFrom(league, 10, 4);
        league.pass(1);
        // At the height 4, 6 under the level: 3, less 2, 1 and 0 for the firmness 5, 3 and 0.
        cellIs(league, 0, 0, 3, 4, 3, 1);
        cellIs(league, 1, 0, 2, 2, 2, 1);
        cellIs(league, 2, 0, 1, 0, 1, 1);
        // At 6, 4 under it: 2, also with the firmness 1. At 8, 2 under it: 1. At 10: none.
        cellIs(league, 0, 1, 2, 0, 4, 1);
        cellIs(league, 0, 2, 3, 0, 7, 1);
        cellIs(league, 0, 3, 4, 0, 10, 0);
        Check.due("lost", 1 + 2 + 10 * 3 + 24 + 12, league.count(4));
        league.pass(1);
        // At 3, 1 under the level: 1 less 2 is not under 0; at 2: 1 less 1; at 1: 2, but there is but 1.
        cellIs(league, 0, 0, 3, 3, 3, 1);
        cellIs(league, 1, 0, 2, 1, 2, 1);
        cellIs(league, 2, 0, 0, 0, 0, 1);
        cellIs(league, 0, 1, 2, 0, 4, 0);
        Check.due("lost", 69 + 10, league.count(4));
    }

    private static void slides() {
        SandcastleLeague league = withTeams(4);
        tidesFrom(league, 0);
        for (int t = 0; t < 4; t++) {
            fillBucket(league, t, 4);
        }
        league.pass(1);
        Check.due("on the holes in the row 5", 4, league.count(5));
        league.pass(1);
        Check.due("nothing slides yet", 0, league.count(5));
        league.pile(0, 0, 9, 2);
        league.pile(1, 4, 9, 3);
        league.pile(2, 7, 9, 3);
        league.pack(2, 7, 9);
        league.pile(3, 11, 9, 4);
        league.pack(3, 11, 9);
        league.pass(1);
        // Of the heights 24, 25, 25 and 26 above 20 but the second and the last ones are steep enough.
        Check.due("slides", 2, league.count(5));
        cellIs(league, 0, 9, 6, 0);
        cellIs(league, 4, 9, 6, 0);
        cellIs(league, 4, 8, 5, 0);
        cellIs(league, 7, 9, 7, 1);
        cellIs(league, 11, 9, 7, 1);
        cellIs(league, 11, 8, 5, 0);
        league.pass(1);
        Check.due("none is left", 0, league.count(5));
    }

    private static void slideWays() {
        SandcastleLeague up = withTeams(1);
        tidesFrom(up, 0);
        up.dig(0, 1, 9, 4);
        up.pile(0, 1, 8, 3);
        up.pile(0, 1, 7, 1);
        up.pass(1);
        // 23 with 19 before it and 18 behind it.
        cellIs(up, 1, 8, 6);
        cellIs(up, 1, 7, 5);
        cellIs(up, 1, 9, 1);
        Check.due("up the beach", 1, up.count(5));

        SandcastleLeague right = withTeams(1);
        tidesFrom(right, 0);
        right.dig(0, 2, 9, 4);
        right.pile(0, 1, 9, 1);
        right.pass(1);
        cellIs(right, 1, 9, 4);
        cellIs(right, 2, 9, 1);
        Check.due("to the right", 1, right.count(5));

        SandcastleLeague last = withTeams(4);
        tidesFrom(last, 0);
        last.dig(3, 11, 9, 4);
        last.pile(3, 10, 9, 1);
        last.pass(1);
        cellIs(last, 10, 9, 4);
        cellIs(last, 11, 9, 1);
        Check.due("to the last cell", 1, last.count(5));

        SandcastleLeague first = withTeams(1);
        tidesFrom(first, 0);
        first.dig(0, 0, 9, 4);
        first.dig(0, 2, 9, 1);
        first.pile(0, 0, 0, 5);
        first.pass(1);
        cellIs(first, 0, 0, 8);
        cellIs(first, 1, 0, 5);
        cellIs(first, 0, 1, 4);
        Check.due("from the first cell", 1, first.count(5));

        // The cells (11, 8) and (0, 9) have numbers side by side, but are at two edges of the beach.
        SandcastleLeague edge = withTeams(4);
        tidesFrom(edge, 0);
        edge.dig(0, 0, 9, 4);
        edge.dig(3, 9, 9, 4);
        edge.pile(3, 11, 8, 3);
        edge.pile(3, 11, 7, 1);
        edge.pass(1);
        // 23, and 19 at its front; 18 is at the other edge.
        cellIs(edge, 11, 8, 7);
        Check.due("not over the right edge", 0, edge.count(5));

        SandcastleLeague left = withTeams(4);
        tidesFrom(left, 0);
        left.dig(3, 11, 8, 2);
        left.dig(0, 2, 9, 2);
        left.pile(0, 0, 9, 2);
        left.pass(1);
        // 24, and 20 at its front; 18 is at the other edge.
        cellIs(left, 0, 9, 6);
        Check.due("not over the left edge", 0, left.count(5));
    }

    private static void slideOrder() {
        SandcastleLeague even = withTeams(1);
        tidesFrom(even, 0);
        even.dig(0, 0, 9, 2);
        even.dig(0, 2, 9, 2);
        even.pile(0, 1, 9, 3);
        even.pass(1);
        // Three neighbours at 20: the one in the row 8 has the smallest number.
        cellIs(even, 1, 9, 6);
        cellIs(even, 1, 8, 5);
        cellIs(even, 0, 9, 2);

        SandcastleLeague left = withTeams(1);
        tidesFrom(left, 0);
        left.dig(0, 0, 9, 3);
        left.dig(0, 2, 9, 3);
        left.pile(0, 1, 9, 2);
        left.pass(1);
        // Two at 19: the left one. After that all is 23, 20, 20 and 19.
        cellIs(left, 1, 9, 5);
        cellIs(left, 0, 9, 2);
        cellIs(left, 2, 9, 1);
        Check.due("one slide", 1, left.count(5));

        SandcastleLeague rounds = withTeams(1);
        tidesFrom(rounds, 0);
        fillBucket(rounds, 0, 12);
        // The digging made 10 of the heights 14 in the row 5; the row 6 is at 16 and slides on it.
        rounds.pass(1);
        cellIs(rounds, 0, 5, 1);
        cellIs(rounds, 0, 6, 3);
        Check.due("one round", 3, rounds.count(5));
        rounds.pile(0, 1, 9, 5);
        rounds.pass(1);
        // 27 above 20: 26 and 21, 25 and 22 - no more than 4 lie between 26 and 22.
        cellIs(rounds, 1, 9, 7);
        cellIs(rounds, 1, 8, 6);
        Check.due("two rounds", 2, rounds.count(5));

        SandcastleLeague atOnce = withTeams(1);
        tidesFrom(atOnce, 0);
        atOnce.dig(0, 0, 0, 4);
        atOnce.dig(0, 0, 1, 1);
        atOnce.pile(0, 0, 2, 3);
        atOnce.pass(1);
        // Heights 0, 5, 11, 10 in the column 0: the cell (0, 1) slides ahead of (0, 2), which finds 4 then.
        // Then 1, 4 (6 at its right), 11: 10 and 5; 10 and 5 again: 9 and 6 - and 6 over 1: 5 and 2.
        // 9 over 5: no more. (1, 2) at 8 and (1, 1) at 6 do not slide.
        cellIs(atOnce, 0, 0, 2);
        cellIs(atOnce, 0, 1, 3);
        cellIs(atOnce, 0, 2, 5);
        Check.due("slides", 4, atOnce.count(5));
    }

    private static void sticks() {
        SandcastleLeague league = withTeams(1);
        tidesFrom(league, 0);
        league.plant(0, 0, 9);
        league.plant(0, 1, 9);
        league.plant(0, 2, 9);
        league.dig(0, 0, 9, 1);
        league.dig(0, 1, 9, 2);
        league.pile(0, 2, 9, 1);
        Check.due("one falls", 1, league.pass(1));
        // 1 lower stands, 2 lower falls; 4 and less sand is 1 point, 5 is 2.
        cellIs(league, 0, 9, 3, 0, 21, 0, 1, 22);
        cellIs(league, 1, 9, 2, 0, 20, 0, 0, 0);
        cellIs(league, 2, 9, 5, 0, 23, 0, 1, 22);
        teamIs("points", league, 0, 2, 20, 3, 2);
        counts("fallen", league, 1, 1, 0, 478, 0, 0, 2, 1, 0);
        league.pass(2);
        Check.due("points of three hours", 9, league.team(0, 2));
        Check.due("a stick again", 3, league.plant(0, 1, 9));
        cellIs(league, 1, 9, 2, 0, 20, 0, 1, 20);

        // A slide makes the place lower than it was: the stick falls in that hour.
        SandcastleLeague steep = withTeams(1);
        tidesFrom(steep, 0);
        fillBucket(steep, 0, 10);
        steep.pile(0, 1, 9, 5);
        steep.pile(0, 1, 9, 5);
        steep.plant(0, 1, 9);
        cellIs(steep, 1, 9, 14, 0, 32, 0, 1, 32);
        Check.due("it falls with the sand", 1, steep.pass(1));
        Check.due("no points", 0, steep.team(0, 2));

        // Under water it falls, however firm its cell is.
        SandcastleLeague wet = withTeams(1);
        tidesFrom(wet, 5);
        for (int f = 0; f < 5; f++) {
            wet.pack(0, 0, 0);
        }
        wet.plant(0, 0, 0);
        Check.due("it falls in the water", 1, wet.pass(1));
        cellIs(wet, 0, 0, 4, 4, 4, 1, 0, 0);
        Check.due("no points in the water", 0, wet.team(0, 2));
    }

    // ---- promise 12

    private static void endRound() {
        SandcastleLeague league = withTeams(4);
        tidesFrom(league, 0, 0, 5);
        league.setTide(11, 30);
        league.plant(0, 0, 9);
        league.plant(1, 3, 9);
        league.plant(1, 4, 9);
        league.plant(2, 6, 9);
        league.dig(3, 9, 9, 4);
        league.pack(0, 0, 8);
        league.pass(3);
        teamIs("points", league, 0, 0, 20, 3);
        teamIs("points", league, 1, 0, 20, 6);
        Check.due("the first end", 1, league.endRound());
        counts("ended", league, 3, 4, 0, 480, 0, 0, 0, 0, 1);
        teamIs("ended", league, 0, 0, 20, 0, 0, 120, 22, 0, 1);
        teamIs("ended", league, 1, 0, 20, 0, 0, 120, 22, 0, 3);
        teamIs("ended", league, 2, 0, 20, 0, 0, 120, 22, 0, 1);
        teamIs("ended", league, 3, 0, 20, 0, 0, 120, 22, 0, 0);
        for (int y = 0; y < 10; y++) {
            for (int x = 0; x < 12; x++) {
                cellIs(league, x, y, 4, 0, 2 * y + 4, 0, 0, 0);
            }
        }
        Check.due("the tides stay", 30, league.setTide(11, 0));
        league.plant(3, 9, 9);
        league.pack(3, 9, 9);
        Check.due("strength is used", 18, league.team(3, 1));
        Check.due("the second end, without an hour", 2, league.endRound());
        teamIs("no points, no league points", league, 3, 0, 20, 0, 0, 120, 22, 0, 0);
        league.plant(3, 9, 9);
        league.pass(1);
        Check.due("the third end", 3, league.endRound());
        Check.due("league points add up", 1, league.team(0, 7));
        Check.due("league points add up", 3, league.team(1, 7));
        Check.due("league points add up", 3, league.team(3, 7));
        Check.due("without teams", 1, new SandcastleLeague().endRound());

        SandcastleLeague steep = withTeams(1);
        tidesFrom(steep, 0);
        steep.dig(0, 2, 9, 4);
        steep.pile(0, 1, 9, 1);
        steep.pass(1);
        Check.due("slides in the round", 1, steep.count(5));
        steep.endRound();
        Check.due("slides of the new round", 0, steep.count(5));
    }

    // ---- promise 13

    private static void leader() {
        SandcastleLeague league = withTeams(4);
        tidesFrom(league, 0);
        leaders(league, 0, 1, 2, 3);
        league.plant(2, 6, 9);
        league.plant(3, 9, 9);
        league.plant(3, 10, 9);
        league.pass(1);
        leaders(league, 3, 2, 0, 1);
        league.endRound();
        // League points 0, 0, 2, 3.
        leaders(league, 3, 2, 0, 1);
        league.plant(0, 0, 9);
        league.plant(0, 1, 9);
        league.plant(1, 3, 9);
        league.plant(1, 4, 9);
        league.plant(1, 5, 9);
        league.pass(1);
        // Points 2, 3, 0, 0: they order the first two alone.
        leaders(league, 3, 2, 1, 0);
        league.endRound();
        // League points 2, 3, 2, 3.
        leaders(league, 1, 3, 0, 2);
        for (int place : new int[] {-1, 4, MIN, MAX}) {
            Check.dueThrow("leader(" + place + ")", league, Check.IOOBE, () -> league.leader(place));
        }
        SandcastleLeague two = withTeams(2);
        Check.dueThrow("leader(2) of two", two, Check.IOOBE, () -> two.leader(2));
    }

    // ---- promise 14

    private static void flood() {
        SandcastleLeague league = withTeams(1);
        int[] cells = {0, 0, 0, 0, 0, 12, 12, 24, 24, 36, 36, 48, 48, 60, 60, 72, 72, 84, 84, 96, 96, 108, 108,
            120, 120, 120, 120, 120, 120, 120, 120};
        for (int level = 0; level <= 30; level++) {
            Check.due("flood(" + level + ")", cells[level], league.flood(level));
        }
        Check.due("flood changes nothing", 0, league.count(2));
        league.dig(0, 1, 4, 4);
        league.dig(0, 2, 5, 4);
        league.dig(0, 0, 7, 4);
        // Heights 8 behind the row 3 at 10, 10 at its corner, 14 behind the row 6 at 16.
        Check.due("flood(10)", 36, league.flood(10));
        Check.due("flood(11)", 49, league.flood(11));
        Check.due("flood(12)", 49, league.flood(12));
        Check.due("flood(13)", 61, league.flood(13));
        Check.due("flood(15)", 72, league.flood(15));
        Check.due("flood(17)", 85, league.flood(17));
        // A bay that the water enters from its right and leaves towards the sea.
        SandcastleLeague bay = withTeams(1);
        fillBucket(bay, 0, 16);
        bay.pile(0, 0, 0, 5);
        bay.pile(0, 1, 0, 5);
        bay.dig(0, 1, 1, 3);
        Check.due("round the corner", 10 + 12, bay.flood(7));
        // Behind 9 at its front and at its sides (x, 1) is open to the sea but from the row 2.
        SandcastleLeague lagoon = withTeams(4);
        for (int t : new int[] {0, 3}) {
            fillBucket(lagoon, t, 11);
            lagoon.pile(t, 3 * t + 1, 0, 5);
            lagoon.pile(t, 3 * t, 1, 3);
            lagoon.pile(t, 3 * t + 2, 1, 3);
        }
        Check.due("from behind", 10 + 8 + 12, lagoon.flood(9));
        Check.due("reach from behind", 9, lagoon.reach(1, 1));
        Check.due("reach from behind", 9, lagoon.reach(10, 1));
        // The first cell of the row 1, closed at its three sides.
        SandcastleLeague closed = withTeams(1);
        fillBucket(closed, 0, 6);
        closed.pile(0, 0, 0, 3);
        closed.pile(0, 1, 1, 1);
        closed.pile(0, 0, 2, 1);
        Check.due("(0, 1) is closed", 11 + 10, closed.flood(7));
        for (int level : new int[] {-1, 31, MIN, MAX}) {
            Check.dueThrow("flood(" + level + ")", league, Check.IAE, () -> league.flood(level));
        }
        league.setTide(0, 7);
        league.pass(1);
        Check.due("now under water", 24, league.count(2));
        // It tells of the level alone, and of the heights 2 and 5 that the row 0 and 1 have now.
        Check.due("flood(0) with water", 0, league.flood(0));
        Check.due("flood(3) with water", 12, league.flood(3));
        Check.due("water stays", 24, league.count(2));
    }

    // ---- promise 15

    private static void reach() {
        SandcastleLeague league = withTeams(1);
        for (int y = 0; y < 10; y++) {
            for (int x = 0; x < 12; x++) {
                Check.due("reach(" + x + ", " + y + ")", 2 * y + 5, league.reach(x, y));
            }
        }
        league.dig(0, 1, 5, 4);
        Check.due("a hollow", 13, league.reach(1, 5));
        Check.due("behind it", 17, league.reach(1, 6));
        league.dig(0, 0, 0, 4);
        Check.due("the lowest", 1, league.reach(0, 0));
        fillBucket(league, 0, 16);
        league.pile(0, 2, 9, 5);
        league.pile(0, 2, 9, 5);
        league.pile(0, 2, 9, 5);
        league.dig(0, 1, 8, 4);
        Check.due("the bucket", 5, league.team(0, 0));
        league.pile(0, 2, 9, 1);
        Check.due("the highest", 39, league.reach(2, 9));
        Check.due("reach changes nothing", 0, league.count(2));
        int[][] wrong = {{-1, 0}, {12, 0}, {0, -1}, {0, 10}, {MIN, 0}, {MAX, 0}, {0, MIN}, {0, MAX}, {-12, 1},
            {12, -1}};
        for (int[] w : wrong) {
            Check.dueThrow("reach(" + w[0] + ", " + w[1] + ")", league, Check.IOOBE,
                () -> league.reach(w[0], w[1]));
        }
    }

    // ---- promise 16

    private static void foresee() {
        SandcastleLeague league = withTeams(2);
        league.plant(0, 0, 0);
        league.plant(0, 1, 1);
        league.plant(0, 2, 2);
        league.plant(1, 3, 9);
        league.pass(1);
        long before = league.digest();
        // Levels 4, 7, 9: the rows 0 and 1 fall in the second hour, the row 2 in the third.
        int[] points = {3, 4, 4};
        int[] standing = {3, 1, 0};
        int[] sand = {120, 111, 96};
        for (int hours = 1; hours <= 3; hours++) {
            Check.due("points in " + hours, points[hours - 1], league.foresee(hours, 0, 0));
            Check.due("sticks in " + hours, standing[hours - 1], league.foresee(hours, 0, 1));
            Check.due("sand in " + hours, sand[hours - 1], league.foresee(hours, 0, 2));
            Check.due("points of team 1 in " + hours, hours, league.foresee(hours, 1, 0));
            Check.due("sticks of team 1 in " + hours, 1, league.foresee(hours, 1, 1));
        }
        Check.due("points in 48", 48, league.foresee(48, 1, 0));
        Check.due("nothing is changed", before, league.digest());
        SandcastleLeague same = withTeams(2);
        same.pass(1);
        int foreseen = same.foresee(48, 1, 2);
        same.pass(48);
        Check.due("it comes so", foreseen, same.team(1, 4));
        // Firmness, and the height of the planting, count here too.
        SandcastleLeague firm = withTeams(1);
        tidesFrom(firm, 5);
        firm.pack(0, 0, 0);
        firm.pack(0, 0, 0);
        firm.plant(0, 0, 9);
        firm.plant(0, 1, 9);
        firm.dig(0, 0, 9, 2);
        firm.dig(0, 1, 9, 1);
        Check.due("sand with firmness", 117 - 2, firm.foresee(1, 0, 2));
        Check.due("a lower place", 1, firm.foresee(1, 0, 1));
        Check.due("points of the other", 12, firm.foresee(12, 0, 0));
        for (int hours : new int[] {0, 49, -1, MIN, MAX}) {
            Check.dueThrow("foresee(" + hours + ", 0, 0)", league, Check.IAE, () -> league.foresee(hours, 0, 0));
            Check.dueThrow("foresee(" + hours + ", 9, 9)", league, Check.IAE, () -> league.foresee(hours, 9, 9));
        }
        for (int w : new int[] {-1, MIN, MAX}) {
            Check.dueThrow("foresee(1, " + w + ", 0)", league, Check.IOOBE, () -> league.foresee(1, w, 0));
            Check.dueThrow("foresee(1, 0, " + w + ")", league, Check.IOOBE, () -> league.foresee(1, 0, w));
        }
        Check.dueThrow("foresee(1, 2, 0)", league, Check.IOOBE, () -> league.foresee(1, 2, 0));
        Check.dueThrow("foresee(1, 0, 3)", league, Check.IOOBE, () -> league.foresee(1, 0, 3));
    }

    // ---- promise 17

    private static void advise() {
        SandcastleLeague league = withTeams(4);
        long before = league.digest();
        for (int t = 0; t < 4; t++) {
            // Levels 2, 4, 7, 9: the rows 0 and 1 are lost in the third hour, the row 2 in the fourth.
            Check.due("advise 1", 3 * t, league.advise(t, 1));
            Check.due("advise 2", 3 * t, league.advise(t, 2));
            Check.due("advise 3", 24 + 3 * t, league.advise(t, 3));
            Check.due("advise 4", 36 + 3 * t, league.advise(t, 4));
        }
        Check.due("nothing is changed", before, league.digest());
        league.plant(1, 3, 2);
        league.plant(1, 4, 2);
        Check.due("beside the sticks", 29, league.advise(1, 3));
        league.plant(1, 5, 2);
        Check.due("though 3 stand", 39, league.advise(1, 3));
        league.dig(0, 2, 9, 4);
        league.pile(0, 0, 9, 1);
        Check.due("two points an hour", 108, league.advise(0, 1));
        while (league.team(0, 1) > 0) {
            league.pack(0, 2, 0);
        }
        Check.due("without strength", 108, league.advise(0, 12));
        league.plant(2, 6, 0);
        Check.due("a stick there", 7, league.advise(2, 1));

        // One stick brings 2 for two hours, before the water; others 1 for three hours.
        SandcastleLeague low = withTeams(1);
        tidesFrom(low, 0, 0, 7);
        fillBucket(low, 0, 5);
        low.pile(0, 2, 0, 2);
        low.pile(0, 1, 0, 3);
        low.setTide(2, 5);
        Check.due("more sand", 1, low.advise(0, 1));
        Check.due("for two hours", 1, low.advise(0, 2));
        Check.due("7 and 6 are above 5", 1, low.advise(0, 3));
        low.setTide(2, 9);
        Check.due("4 points, and then nothing", 1, low.advise(0, 3));
        low.setTide(1, 9);
        Check.due("2 points, and then nothing", 36, low.advise(0, 3));

        SandcastleLeague lost = withTeams(1);
        tidesFrom(lost, 30);
        Check.due("all bring nothing", 0, lost.advise(0, 1));
        lost.pass(1);
        Check.due("all is under water", -1, lost.advise(0, 1));
        lost.pass(1);
        Check.due("all is dry", 0, lost.advise(0, 1));
    }

    private static void adviseWrongly() {
        SandcastleLeague league = withTeams(2);
        for (int t : new int[] {-1, 2, 4, MIN, MAX}) {
            Check.dueThrow("advise(" + t + ", 1)", league, Check.IOOBE, () -> league.advise(t, 1));
            Check.dueThrow("advise(" + t + ", 0)", league, Check.IOOBE, () -> league.advise(t, 0));
        }
        for (int hours : new int[] {0, 13, -1, MIN, MAX}) {
            Check.dueThrow("advise(0, " + hours + ")", league, Check.IAE, () -> league.advise(0, hours));
        }
    }

    // ---- promise 18

    private static void mean() {
        SandcastleLeague league = withTeams(1);
        Check.dueDouble("mean()", 13.0, league.mean());
        league.dig(0, 0, 0, 1);
        Check.dueDouble("1 less", 1559 / 120.0, league.mean());
        league.dig(0, 2, 9, 4);
        Check.dueDouble("5 less", 1555 / 120.0, league.mean());
        league.pile(0, 2, 8, 5);
        Check.dueDouble("piled again", 13.0, league.mean());
    }

    // ---- promise 19

    private static void digest() {
        SandcastleLeague league = new SandcastleLeague();
        Check.due("of a new one", digestOf(league, FIRST_TIDES), league.digest());
        for (int t = 0; t < 4; t++) {
            league.addTeam();
            Check.due("with teams", digestOf(league, FIRST_TIDES), league.digest());
        }
        fillBucket(league, 2, 11);
        league.pile(2, 6, 8, 5);
        league.pile(2, 6, 9, 5);
        league.pack(2, 8, 0);
        league.plant(2, 6, 9);
        league.plant(0, 0, 0);
        league.plant(3, 11, 9);
        Check.due("after deeds", digestOf(league, FIRST_TIDES), league.digest());
        league.pass(5);
        Check.due("after hours", digestOf(league, FIRST_TIDES), league.digest());
        int[] tides = FIRST_TIDES.clone();
        tides[11] = 30;
        league.setTide(11, 30);
        Check.due("after a tide", digestOf(league, tides), league.digest());
        league.endRound();
        Check.due("after a round", digestOf(league, tides), league.digest());
    }
}
