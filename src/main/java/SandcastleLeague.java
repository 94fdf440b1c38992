import java.util.Arrays;

/** A league of sandcastles against the tides. */
public final class SandcastleLeague {
    private static final int COLUMNS = 12;
    private static final int ROWS = 10;
    private static final int CELLS = 120;
    private static final int SIDES = 4;
    private static final int FIRST_SAND = 4;
    private static final int MAX_SAND = 20;
    private static final int MAX_FIRMNESS = 5;
    private static final int STEEPNESS = 4;
    private static final int SLIDE_ROUNDS = 40;

    private static final int MAX_TEAMS = 4;
    private static final int AREA_COLUMNS = 3;
    private static final int MAX_BUCKET = 40;
    private static final int FULL_STRENGTH = 20;
    private static final int MAX_STICKS = 3;
    private static final int MAX_AMOUNT = 5;

    private static final int TIDES = 12;
    private static final int MAX_LEVEL = 30;
    private static final int MAX_REACH = 60;
    private static final int MAX_HOURS = 48;
    private static final int MAX_ADVICE_HOURS = 12;
    private static final int[] FIRST_TIDES = {2, 4, 7, 9, 10, 10, 9, 7, 5, 3, 2, 1};

    private static final int CELL_NUMBERS = 6;
    private static final int TEAM_NUMBERS = 8;
    private static final int COUNT_NUMBERS = 9;
    private static final int FORESEE_NUMBERS = 3;

    private static final int NOBODY = -1;
    private static final int NO_CELL = -1;

    private final Shore shore = new Shore();
    // Looking ahead is tried out here; it is made once, as a run's objects are counted.
    private final Shore trial = new Shore();
    private final int[] tides = FIRST_TIDES.clone();
    private final int[] bucket = new int[MAX_TEAMS];
    private final int[] strength = new int[MAX_TEAMS];
    private final int[] leaguePoints = new int[MAX_TEAMS];
    private int teams;
    private int hour;
    private int endedRounds;

    public SandcastleLeague() {
        beginRound();
    }

    // ---- teams and tides

    public int addTeam() throws IllegalStateException {
        if (teams >= MAX_TEAMS) {
            throw new IllegalStateException("there are 4 teams");
        }
        teams++;
        return teams - 1;
    }

    public int setTide(int hour, int level) throws IndexOutOfBoundsException, IllegalArgumentException {
        if (hour < 0 || hour >= TIDES) {
            throw new IndexOutOfBoundsException("the hour is not 0 to 11");
        }
        requireLevel(level);
        int before = tides[hour];
        tides[hour] = level;
        return before;
    }

    // ---- deeds

    public int dig(int team, int x, int y, int n)
            throws IndexOutOfBoundsException, IllegalArgumentException, IllegalStateException {
        requireTeam(team);
        requireArea(team, x, y);
        requireAmount(n);
        requireStrength(team);
        strength[team]--;
        int taken = shore.takeSand(cellAt(x, y), Math.min(n, MAX_BUCKET - bucket[team]));
        bucket[team] += taken;
        return taken;
    }

    public int pile(int team, int x, int y, int n)
            throws IndexOutOfBoundsException, IllegalArgumentException, IllegalStateException {
        requireTeam(team);
        requireArea(team, x, y);
        requireAmount(n);
        requireStrength(team);
        strength[team]--;
        int piled = shore.putSand(cellAt(x, y), Math.min(n, bucket[team]));
        bucket[team] -= piled;
        return piled;
    }

    public int pack(int team, int x, int y)
            throws IndexOutOfBoundsException, IllegalArgumentException, IllegalStateException {
        requireTeam(team);
        requireArea(team, x, y);
        requireStrength(team);
        strength[team]--;
        return shore.harden(cellAt(x, y));
    }

    public int plant(int team, int x, int y)
            throws IndexOutOfBoundsException, IllegalArgumentException, IllegalStateException {
        requireTeam(team);
        requireArea(team, x, y);
        requireStrength(team);
        if (shore.sticksOf(team) >= MAX_STICKS) {
            throw new IllegalStateException("3 sticks of the team stand");
        }
        if (!shore.isFree(cellAt(x, y))) {
            throw new IllegalStateException("there is a stick on the cell, or it is under water");
        }
        strength[team]--;
        shore.putStick(cellAt(x, y), team);
        return shore.sticksOf(team);
    }

    // ---- what is there

    public int cell(int x, int y, int what) throws IndexOutOfBoundsException {
        requireCell(x, y);
        requireWhat(what, CELL_NUMBERS);
        return shore.tellCell(cellAt(x, y), what);
    }

    public int team(int team, int what) throws IndexOutOfBoundsException {
        requireTeam(team);
        requireWhat(what, TEAM_NUMBERS);
        switch (what) {
            case 0:
                return bucket[team];
            case 1:
                return strength[team];
            case 2:
                return shore.pointsOf(team);
            case 3:
                return shore.sticksOf(team);
            case 4:
                return shore.sandOfArea(team);
            case 5:
                return shore.greatestHeightOfArea(team);
            case 6:
                return shore.waterOfArea(team);
            default:
                return leaguePoints[team];
        }
    }

    public int count(int what) throws IndexOutOfBoundsException {
        requireWhat(what, COUNT_NUMBERS);
        switch (what) {
            case 0:
                return hour;
            case 1:
                return teams;
            case 2:
                return shore.allWater();
            case 3:
                return shore.allSand();
            case 4:
                return shore.lostSand;
            case 5:
                return shore.slides;
            case 6:
                return shore.allSticks();
            case 7:
                return shore.fallenSticks;
            default:
                return endedRounds;
        }
    }

    // ---- hours and rounds

    public int pass(int hours) throws IllegalArgumentException {
        requireHours(hours, MAX_HOURS);
        int fallenBefore = shore.fallenSticks;
        letHoursGoBy(shore, hours);
        hour += hours;
        Arrays.fill(strength, FULL_STRENGTH);
        return shore.fallenSticks - fallenBefore;
    }

    public int endRound() {
        for (int team = 0; team < teams; team++) {
            leaguePoints[team] += teamsWithFewerPoints(team);
        }
        beginRound();
        endedRounds++;
        return endedRounds;
    }

    public int leader(int place) throws IndexOutOfBoundsException {
        if (place < 0 || place >= teams) {
            throw new IndexOutOfBoundsException("there are not so many teams");
        }
        int found = 0;
        for (int team = 0; team < teams; team++) {
            if (teamsAheadOf(team) == place) {
                found = team;
            }
        }
        return found;
    }

    // ---- looking ahead

    public int flood(int level) throws IllegalArgumentException {
        requireLevel(level);
        trial.become(shore);
        trial.findWater(level);
        return trial.allWater();
    }

    public int reach(int x, int y) throws IndexOutOfBoundsException {
        requireCell(x, y);
        int cell = cellAt(x, y);
        trial.become(shore);
        for (int level = 0; level < MAX_REACH; level++) {
            trial.findWater(level);
            if (trial.isWet(cell)) {
                return level;
            }
        }
        return MAX_REACH;
    }

    public int foresee(int hours, int team, int what) throws IllegalArgumentException, IndexOutOfBoundsException {
        requireHours(hours, MAX_HOURS);
        requireTeam(team);
        requireWhat(what, FORESEE_NUMBERS);
        trial.become(shore);
        letHoursGoBy(trial, hours);
        switch (what) {
            case 0:
                return trial.pointsOf(team) - shore.pointsOf(team);
            case 1:
                return trial.sticksOf(team);
            default:
                return trial.sandOfArea(team);
        }
    }

    public int advise(int team, int hours) throws IndexOutOfBoundsException, IllegalArgumentException {
        requireTeam(team);
        requireHours(hours, MAX_ADVICE_HOURS);
        trial.become(shore);
        trial.clearSticks();
        // Sticks change nothing but points, so all free cells are tried at once,
        // each for an owner of its own that has the number of the cell.
        for (int cell = 0; cell < CELLS; cell++) {
            if (isInArea(team, cell) && shore.isFree(cell)) {
                trial.putStick(cell, cell);
            }
        }
        letHoursGoBy(trial, hours);
        int best = NO_CELL;
        int most = -1;
        for (int cell = 0; cell < CELLS; cell++) {
            if (isInArea(team, cell) && shore.isFree(cell) && trial.pointsOf(cell) > most) {
                best = cell;
                most = trial.pointsOf(cell);
            }
        }
        return best;
    }

    public double mean() {
        return (double) shore.allHeights() / CELLS;
    }

    public long digest() {
        long d = 503;
        for (int what = 0; what < COUNT_NUMBERS; what++) {
            d = d * 31 + count(what);
        }
        for (int h = 0; h < TIDES; h++) {
            d = d * 31 + tides[h];
        }
        for (int team = 0; team < teams; team++) {
            for (int what = 0; what < TEAM_NUMBERS; what++) {
                d = d * 31 + team(team, what);
            }
        }
        for (int cell = 0; cell < CELLS; cell++) {
            for (int what = 0; what < CELL_NUMBERS; what++) {
                d = d * 31 + shore.tellCell(cell, what);
            }
        }
        return d;
    }

    // ---- within

    private void beginRound() {
        shore.begin();
        Arrays.fill(bucket, 0);
        Arrays.fill(strength, FULL_STRENGTH);
    }

    private void letHoursGoBy(Shore where, int hours) {
        for (int h = 0; h < hours; h++) {
            where.letHourGoBy(tides[Math.floorMod(hour + h, TIDES)]);
        }
    }

    private int teamsWithFewerPoints(int team) {
        int fewer = 0;
        for (int other = 0; other < teams; other++) {
            if (shore.pointsOf(other) < shore.pointsOf(team)) {
                fewer++;
            }
        }
        return fewer;
    }

    private int teamsAheadOf(int team) {
        int ahead = 0;
        for (int other = 0; other < teams; other++) {
            if (isAhead(other, team)) {
                ahead++;
            }
        }
        return ahead;
    }

    private boolean isAhead(int one, int other) {
        if (leaguePoints[one] != leaguePoints[other]) {
            return leaguePoints[one] > leaguePoints[other];
        }
        if (shore.pointsOf(one) != shore.pointsOf(other)) {
            return shore.pointsOf(one) > shore.pointsOf(other);
        }
        return one < other;
    }

    private static boolean isOnBeach(int x, int y) {
        return x >= 0 && x < COLUMNS && y >= 0 && y < ROWS;
    }

    private static int cellAt(int x, int y) {
        return x + COLUMNS * y;
    }

    private static boolean isInArea(int team, int cell) {
        return cell % COLUMNS / AREA_COLUMNS == team;
    }

    private void requireTeam(int team) {
        if (team < 0 || team >= teams) {
            throw new IndexOutOfBoundsException("there is no such team");
        }
    }

    private static void requireCell(int x, int y) {
        if (!isOnBeach(x, y)) {
            throw new IndexOutOfBoundsException("there is no such cell");
        }
    }

    private static void requireWhat(int what, int numbers) {
        if (what < 0 || what >= numbers) {
            throw new IndexOutOfBoundsException("there is no such number to tell");
        }
    }

    private static void requireArea(int team, int x, int y) {
        if (!isOnBeach(x, y) || !isInArea(team, cellAt(x, y))) {
            throw new IllegalArgumentException("the cell is not in the area of the team");
        }
    }

    private static void requireAmount(int n) {
        if (n < 1 || n > MAX_AMOUNT) {
            throw new IllegalArgumentException("n is not 1 to 5");
        }
    }

    private static void requireLevel(int level) {
        if (level < 0 || level > MAX_LEVEL) {
            throw new IllegalArgumentException("the level is not 0 to 30");
        }
    }

    private static void requireHours(int hours, int most) {
        if (hours < 1 || hours > most) {
            throw new IllegalArgumentException("so many hours are not allowed");
        }
    }

    private void requireStrength(int team) {
        if (strength[team] <= 0) {
            throw new IllegalStateException("the team has no strength left");
        }
    }

    /** The beach of one round of the league, with its water and sticks, and what the sticks have brought. */
    private static final class Shore {
        private final int[] sand = new int[CELLS];
        private final int[] firmness = new int[CELLS];
        private final int[] water = new int[CELLS];
        private final int[] owner = new int[CELLS];
        private final int[] plantedHeight = new int[CELLS];
        // One for each number that an owner can have: a team's, or in a trial a cell's.
        private final int[] points = new int[CELLS];
        private int lostSand;
        private int slides;
        private int fallenSticks;

        void begin() {
            Arrays.fill(sand, FIRST_SAND);
            Arrays.fill(firmness, 0);
            Arrays.fill(water, 0);
            clearSticks();
            lostSand = 0;
            slides = 0;
            fallenSticks = 0;
        }

        void clearSticks() {
            Arrays.fill(owner, NOBODY);
            Arrays.fill(plantedHeight, 0);
            Arrays.fill(points, 0);
        }

        void become(Shore other) {
            System.arraycopy(other.sand, 0, sand, 0, CELLS);
            System.arraycopy(other.firmness, 0, firmness, 0, CELLS);
            System.arraycopy(other.water, 0, water, 0, CELLS);
            System.arraycopy(other.owner, 0, owner, 0, CELLS);
            System.arraycopy(other.plantedHeight, 0, plantedHeight, 0, CELLS);
            System.arraycopy(other.points, 0, points, 0, CELLS);
            lostSand = other.lostSand;
            slides = other.slides;
            fallenSticks = other.fallenSticks;
        }

        int takeSand(int cell, int most) {
            int taken = Math.min(most, sand[cell]);
            sand[cell] -= taken;
            firmness[cell] = 0;
            return taken;
        }

        int putSand(int cell, int most) {
            int put = Math.min(most, MAX_SAND - sand[cell]);
            sand[cell] += put;
            if (put > 0) {
                soften(cell);
            }
            return put;
        }

        int harden(int cell) {
            if (sand[cell] > 0 && !isWet(cell) && firmness[cell] < MAX_FIRMNESS) {
                firmness[cell]++;
            }
            return firmness[cell];
        }

        void putStick(int cell, int newOwner) {
            owner[cell] = newOwner;
            plantedHeight[cell] = height(cell);
        }

        void letHourGoBy(int level) {
            findWater(level);
            washSandAway(level);
            slides = letSandSlide();
            judgeSticks();
        }

        void findWater(int level) {
            Arrays.fill(water, 0);
            boolean risen = true;
            // Each sweep but the last finds a cell, so there can't be more sweeps than cells, and one.
            for (int sweep = 0; risen && sweep <= CELLS; sweep++) {
                risen = sweepWater(level);
            }
        }

        private boolean sweepWater(int level) {
            boolean risen = false;
            for (int cell = 0; cell < CELLS; cell++) {
                if (!isWet(cell) && height(cell) < level && isOpenToSea(cell)) {
                    water[cell] = 1;
                    risen = true;
                }
            }
            return risen;
        }

        private boolean isOpenToSea(int cell) {
            if (cell < COLUMNS) {
                return true;
            }
            for (int side = 0; side < SIDES; side++) {
                int next = beside(cell, side);
                if (next != NO_CELL && isWet(next)) {
                    return true;
                }
            }
            return false;
        }

        private void washSandAway(int level) {
            for (int cell = 0; cell < CELLS; cell++) {
                if (isWet(cell)) {
                    int loss = 1 + (level - height(cell)) / 3 - firmness[cell] / 2;
                    loss = Math.min(Math.max(loss, 0), sand[cell]);
                    sand[cell] -= loss;
                    lostSand += loss;
                    soften(cell);
                }
            }
        }

        private int letSandSlide() {
            int all = 0;
            int inRound = 1;
            for (int round = 0; inRound > 0 && round < SLIDE_ROUNDS; round++) {
                inRound = slideOnce();
                all += inRound;
            }
            return all;
        }

        private int slideOnce() {
            int slid = 0;
            for (int cell = 0; cell < CELLS; cell++) {
                int lowest = lowestBeside(cell);
                if (lowest != NO_CELL && slidesTo(cell, lowest)) {
                    sand[cell]--;
                    sand[lowest]++;
                    slid++;
                }
            }
            return slid;
        }

        private boolean slidesTo(int cell, int lowest) {
            return sand[cell] > 0
                    && height(cell) > height(lowest) + STEEPNESS + firmness[cell]
                    && sand[lowest] < MAX_SAND;
        }

        private int lowestBeside(int cell) {
            int lowest = NO_CELL;
            for (int side = 0; side < SIDES; side++) {
                int next = beside(cell, side);
                if (next != NO_CELL && (lowest == NO_CELL || height(next) < height(lowest))) {
                    lowest = next;
                }
            }
            return lowest;
        }

        /** The sides are in the ascending order of the cells there. */
        private static int beside(int cell, int side) {
            int x = cell % COLUMNS;
            switch (side) {
                case 0:
                    return cell >= COLUMNS ? cell - COLUMNS : NO_CELL;
                case 1:
                    return x > 0 ? cell - 1 : NO_CELL;
                case 2:
                    return x < COLUMNS - 1 ? cell + 1 : NO_CELL;
                default:
                    return cell < CELLS - COLUMNS ? cell + COLUMNS : NO_CELL;
            }
        }

        private void judgeSticks() {
            for (int cell = 0; cell < CELLS; cell++) {
                int whose = owner[cell];
                if (whose >= 0 && whose < CELLS) {
                    if (isWet(cell) || height(cell) < plantedHeight[cell] - 1) {
                        owner[cell] = NOBODY;
                        plantedHeight[cell] = 0;
                        fallenSticks++;
                    } else {
                        points[whose] += 1 + sand[cell] / 5;
                    }
                }
            }
        }

        private void soften(int cell) {
            if (firmness[cell] > 0) {
                firmness[cell]--;
            }
        }

        int height(int cell) {
            return 2 * (cell / COLUMNS) + sand[cell];
        }

        boolean isWet(int cell) {
            return water[cell] != 0;
        }

        boolean hasStick(int cell) {
            return owner[cell] != NOBODY;
        }

        boolean isFree(int cell) {
            return !hasStick(cell) && !isWet(cell);
        }

        int tellCell(int cell, int what) {
            switch (what) {
                case 0:
                    return sand[cell];
                case 1:
                    return firmness[cell];
                case 2:
                    return height(cell);
                case 3:
                    return water[cell];
                case 4:
                    return hasStick(cell) ? 1 : 0;
                default:
                    return plantedHeight[cell];
            }
        }

        int pointsOf(int whose) {
            return points[whose];
        }

        int sticksOf(int whose) {
            int all = 0;
            for (int cell = 0; cell < CELLS; cell++) {
                if (owner[cell] == whose) {
                    all++;
                }
            }
            return all;
        }

        int sandOfArea(int team) {
            return sumOfArea(sand, team);
        }

        int waterOfArea(int team) {
            return sumOfArea(water, team);
        }

        int greatestHeightOfArea(int team) {
            int greatest = 0;
            for (int cell = 0; cell < CELLS; cell++) {
                if (isInArea(team, cell)) {
                    greatest = Math.max(greatest, height(cell));
                }
            }
            return greatest;
        }

        int allSand() {
            return sum(sand);
        }

        int allWater() {
            return sum(water);
        }

        int allHeights() {
            int all = 0;
            for (int cell = 0; cell < CELLS; cell++) {
                all += height(cell);
            }
            return all;
        }

        int allSticks() {
            int all = 0;
            for (int cell = 0; cell < CELLS; cell++) {
                if (hasStick(cell)) {
                    all++;
                }
            }
            return all;
        }

        private static int sum(int[] numbers) {
            int all = 0;
            for (int number : numbers) {
                all += number;
            }
            return all;
        }

        private static int sumOfArea(int[] numbers, int team) {
            int all = 0;
            for (int cell = 0; cell < CELLS && cell < numbers.length; cell++) {
                if (isInArea(team, cell)) {
                    all += numbers[cell];
                }
            }
            return all;
        }
    }
}
