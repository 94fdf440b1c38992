import java.util.ArrayDeque;
import java.util.ArrayList;
import java.util.Comparator;
import java.util.List;

/**
 * The document once more, written another way and without care for speed or room,
 * so that long runs of calls can be compared. It shares no line with the program.
 */
final class PlainModel {
    static final class Stick {
        int team;
        int x;
        int y;
        int planted;
        int brought;

        Stick(int team, int x, int y, int planted) {
            this.team = team;
            this.x = x;
            this.y = y;
            this.planted = planted;
        }
    }

    static final class Team {
        int bucket;
        int strength = 20;
        int points;
        int league;
    }

    int[][] sand = new int[10][12];
    int[][] firm = new int[10][12];
    boolean[][] wet = new boolean[10][12];
    int[] tide = {2, 4, 7, 9, 10, 10, 9, 7, 5, 3, 2, 1};
    List<Stick> sticks = new ArrayList<>();
    List<Team> teams = new ArrayList<>();
    int hour;
    int lost;
    int slides;
    int fallen;
    int ended;

    PlainModel() {
        for (int[] row : sand) {
            java.util.Arrays.fill(row, 4);
        }
    }

    PlainModel copy() {
        PlainModel to = new PlainModel();
        for (int y = 0; y < 10; y++) {
            to.sand[y] = sand[y].clone();
            to.firm[y] = firm[y].clone();
            to.wet[y] = wet[y].clone();
        }
        to.tide = tide.clone();
        for (Stick s : sticks) {
            to.sticks.add(new Stick(s.team, s.x, s.y, s.planted));
        }
        for (Team t : teams) {
            Team u = new Team();
            u.bucket = t.bucket;
            u.strength = t.strength;
            u.points = t.points;
            u.league = t.league;
            to.teams.add(u);
        }
        to.hour = hour;
        to.lost = lost;
        to.slides = slides;
        to.fallen = fallen;
        to.ended = ended;
        return to;
    }

    int height(int x, int y) {
        return 2 * y + sand[y][x];
    }

    List<int[]> neighbours(int x, int y) {
        List<int[]> all = new ArrayList<>();
        for (int v = 0; v < 10; v++) {
            for (int u = 0; u < 12; u++) {
                if (Math.abs(u - x) + Math.abs(v - y) == 1) {
                    all.add(new int[] {u, v});
                }
            }
        }
        return all;
    }

    boolean[][] under(int level) {
        boolean[][] seen = new boolean[10][12];
        ArrayDeque<int[]> open = new ArrayDeque<>();
        for (int x = 0; x < 12; x++) {
            open.add(new int[] {x, 0});
        }
        while (!open.isEmpty()) {
            int[] at = open.poll();
            if (!seen[at[1]][at[0]] && height(at[0], at[1]) < level) {
                seen[at[1]][at[0]] = true;
                open.addAll(neighbours(at[0], at[1]));
            }
        }
        return seen;
    }

    static int size(boolean[][] set) {
        int n = 0;
        for (boolean[] row : set) {
            for (boolean b : row) {
                n += b ? 1 : 0;
            }
        }
        return n;
    }

    int goOneHour() {
        int level = tide[hour % 12];
        wet = under(level);
        for (int x = 0; x < 12; x++) {
            for (int y = 0; y < 10; y++) {
                if (wet[y][x]) {
                    int off = 1 + (level - height(x, y)) / 3 - firm[y][x] / 2;
                    off = off < 0 ? 0 : off > sand[y][x] ? sand[y][x] : off;
                    sand[y][x] -= off;
                    lost += off;
                    firm[y][x] = firm[y][x] > 0 ? firm[y][x] - 1 : 0;
                }
            }
        }
        slides = 0;
        for (int round = 1; round <= 40; round++) {
            int n = slideRound();
            slides += n;
            if (n == 0) {
                break;
            }
        }
        int fell = 0;
        for (Stick s : new ArrayList<>(sticks)) {
            if (wet[s.y][s.x] || height(s.x, s.y) < s.planted - 1) {
                sticks.remove(s);
                fell++;
            } else {
                int points = 1 + sand[s.y][s.x] / 5;
                s.brought += points;
                teams.get(s.team).points += points;
            }
        }
        fallen += fell;
        for (Team t : teams) {
            t.strength = 20;
        }
        hour++;
        return fell;
    }

    int slideRound() {
        int n = 0;
        for (int y = 0; y < 10; y++) {
            for (int x = 0; x < 12; x++) {
                int[] to = null;
                for (int[] at : neighbours(x, y)) {
                    if (to == null || height(at[0], at[1]) < height(to[0], to[1])) {
                        to = at;
                    }
                }
                if (sand[y][x] > 0 && sand[to[1]][to[0]] < 20
                    && height(x, y) - height(to[0], to[1]) > 4 + firm[y][x]) {
                    sand[y][x]--;
                    sand[to[1]][to[0]]++;
                    n++;
                }
            }
        }
        return n;
    }

    void needTeam(int team) {
        if (team < 0 || team >= teams.size()) {
            throw new IndexOutOfBoundsException();
        }
    }

    static void index(boolean good) {
        if (!good) {
            throw new IndexOutOfBoundsException();
        }
    }

    static void argument(boolean good) {
        if (!good) {
            throw new IllegalArgumentException();
        }
    }

    static void state(boolean good) {
        if (!good) {
            throw new IllegalStateException();
        }
    }

    static boolean in(int from, int n, int to) {
        return from <= n && n <= to;
    }

    void needDeed(int team, int x, int y, int n) {
        needTeam(team);
        argument(in(3 * team, x, 3 * team + 2) && in(0, y, 9) && in(1, n, 5));
        state(teams.get(team).strength > 0);
    }

    Stick stickAt(int x, int y) {
        for (Stick s : sticks) {
            if (s.x == x && s.y == y) {
                return s;
            }
        }
        return null;
    }

    int sticksOf(int team) {
        return (int) sticks.stream().filter(s -> s.team == team).count();
    }

    int addTeam() {
        state(teams.size() < 4);
        teams.add(new Team());
        return teams.size() - 1;
    }

    int setTide(int h, int level) {
        index(in(0, h, 11));
        argument(in(0, level, 30));
        int old = tide[h];
        tide[h] = level;
        return old;
    }

    int dig(int team, int x, int y, int n) {
        needDeed(team, x, y, n);
        Team t = teams.get(team);
        t.strength--;
        int got = 0;
        while (got < n && sand[y][x] > 0 && t.bucket < 40) {
            sand[y][x]--;
            t.bucket++;
            got++;
        }
        firm[y][x] = 0;
        return got;
    }

    int pile(int team, int x, int y, int n) {
        needDeed(team, x, y, n);
        Team t = teams.get(team);
        t.strength--;
        int put = 0;
        while (put < n && sand[y][x] < 20 && t.bucket > 0) {
            sand[y][x]++;
            t.bucket--;
            put++;
        }
        if (put > 0 && firm[y][x] > 0) {
            firm[y][x]--;
        }
        return put;
    }

    int pack(int team, int x, int y) {
        needDeed(team, x, y, 1);
        teams.get(team).strength--;
        if (sand[y][x] != 0 && !wet[y][x] && firm[y][x] != 5) {
            firm[y][x]++;
        }
        return firm[y][x];
    }

    int plant(int team, int x, int y) {
        needDeed(team, x, y, 1);
        state(sticksOf(team) < 3 && stickAt(x, y) == null && !wet[y][x]);
        teams.get(team).strength--;
        sticks.add(new Stick(team, x, y, height(x, y)));
        return sticksOf(team);
    }

    int cell(int x, int y, int what) {
        index(in(0, x, 11) && in(0, y, 9) && in(0, what, 5));
        Stick s = stickAt(x, y);
        int[] all = {sand[y][x], firm[y][x], height(x, y), wet[y][x] ? 1 : 0, s == null ? 0 : 1,
            s == null ? 0 : s.planted};
        return all[what];
    }

    int team(int team, int what) {
        needTeam(team);
        index(in(0, what, 7));
        Team t = teams.get(team);
        int area = 0;
        int top = Integer.MIN_VALUE;
        int water = 0;
        for (int x = 3 * team; x < 3 * team + 3; x++) {
            for (int y = 0; y < 10; y++) {
                area += sand[y][x];
                top = Math.max(top, height(x, y));
                water += wet[y][x] ? 1 : 0;
            }
        }
        int[] all = {t.bucket, t.strength, t.points, sticksOf(team), area, top, water, t.league};
        return all[what];
    }

    int count(int what) {
        index(in(0, what, 8));
        int allSand = 0;
        for (int[] row : sand) {
            for (int s : row) {
                allSand += s;
            }
        }
        int[] all = {hour, teams.size(), size(wet), allSand, lost, slides, sticks.size(), fallen, ended};
        return all[what];
    }

    int pass(int hours) {
        argument(in(1, hours, 48));
        int fell = 0;
        for (int h = 0; h < hours; h++) {
            fell += goOneHour();
        }
        return fell;
    }

    int endRound() {
        PlainModel fresh = new PlainModel();
        for (Team t : teams) {
            t.league += (int) teams.stream().filter(u -> u.points < t.points).count();
        }
        for (Team t : teams) {
            t.bucket = 0;
            t.strength = 20;
            t.points = 0;
        }
        sand = fresh.sand;
        firm = fresh.firm;
        wet = fresh.wet;
        sticks.clear();
        lost = 0;
        slides = 0;
        fallen = 0;
        return ++ended;
    }

    int leader(int place) {
        index(in(0, place, teams.size() - 1));
        List<Integer> order = new ArrayList<>();
        for (int t = 0; t < teams.size(); t++) {
            order.add(t);
        }
        order.sort(Comparator.<Integer>comparingInt(t -> -teams.get(t).league)
            .thenComparingInt(t -> -teams.get(t).points)
            .thenComparingInt(t -> t));
        return order.get(place);
    }

    int flood(int level) {
        argument(in(0, level, 30));
        return size(under(level));
    }

    int reach(int x, int y) {
        index(in(0, x, 11) && in(0, y, 9));
        int level = 0;
        while (!under(level)[y][x]) {
            level++;
        }
        return level;
    }

    int foresee(int hours, int team, int what) {
        argument(in(1, hours, 48));
        needTeam(team);
        index(in(0, what, 2));
        PlainModel then = copy();
        then.pass(hours);
        int[] all = {then.team(team, 2) - team(team, 2), then.sticksOf(team), then.team(team, 4)};
        return all[what];
    }

    int advise(int team, int hours) {
        needTeam(team);
        argument(in(1, hours, 12));
        int best = -1;
        int most = -1;
        for (int n = 0; n < 120; n++) {
            int x = n % 12;
            int y = n / 12;
            if (x / 3 == team && stickAt(x, y) == null && !wet[y][x]) {
                PlainModel then = copy();
                Stick one = new Stick(team, x, y, height(x, y));
                then.sticks.add(one);
                then.pass(hours);
                if (one.brought > most) {
                    best = n;
                    most = one.brought;
                }
            }
        }
        return best;
    }

    double mean() {
        int sum = 0;
        for (int y = 0; y < 10; y++) {
            for (int x = 0; x < 12; x++) {
                sum += height(x, y);
            }
        }
        return sum / 120.0;
    }

    long digest() {
        List<Integer> all = new ArrayList<>();
        for (int w = 0; w < 9; w++) {
            all.add(count(w));
        }
        for (int t : tide) {
            all.add(t);
        }
        for (int t = 0; t < teams.size(); t++) {
            for (int w = 0; w < 8; w++) {
                all.add(team(t, w));
            }
        }
        for (int n = 0; n < 120; n++) {
            for (int w = 0; w < 6; w++) {
                all.add(cell(n % 12, n / 12, w));
            }
        }
        long d = 503;
        for (int x : all) {
            d = d * 31 + x;
        }
        return d;
    }
}
