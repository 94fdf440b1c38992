import java.math.BigInteger;

/** What the tests share: leagues to start from, and several answers compared at once. */
abstract class TestKit {
    static final int[] FIRST_TIDES = {2, 4, 7, 9, 10, 10, 9, 7, 5, 3, 2, 1};
    static final int MIN = Integer.MIN_VALUE;
    static final int MAX = Integer.MAX_VALUE;

    interface Deed {
        int of(SandcastleLeague league, int team, int x, int y);
    }

    static final String[] DEED_NAMES = {"dig", "pile", "pack", "plant"};
    static final Deed[] DEEDS = {
        (league, team, x, y) -> league.dig(team, x, y, 1),
        (league, team, x, y) -> league.pile(team, x, y, 1),
        (league, team, x, y) -> league.pack(team, x, y),
        (league, team, x, y) -> league.plant(team, x, y)};

    static SandcastleLeague withTeams(int teams) {
        SandcastleLeague league = new SandcastleLeague();
        for (int t = 0; t < teams; t++) {
            league.addTeam();
        }
        return league;
    }

    /** A league whose tides stay away. */
    static SandcastleLeague dry(int teams) {
        SandcastleLeague league = withTeams(teams);
        tidesFrom(league);
        return league;
    }

    /** The levels of the hours 0, 1, ..; 0 in the others. */
    static void tidesFrom(SandcastleLeague league, int... levels) {
        for (int h = 0; h < 12; h++) {
            league.setTide(h, h < levels.length ? levels[h] : 0);
        }
    }

    /** Lets one hour go by with this level. */
    static int passAt(SandcastleLeague league, int level) {
        league.setTide(league.count(0) % 12, level);
        return league.pass(1);
    }

    /** Fills the bucket of the team from its columns' row 5, and on from the row 6. */
    static void fillBucket(SandcastleLeague league, int team, int sand) {
        for (int cell = 0; cell < 15 && league.team(team, 0) < sand; cell++) {
            int n = Math.min(4, sand - league.team(team, 0));
            league.dig(team, 3 * team + cell % 3, 5 + cell / 3, n);
        }
    }

    /** Takes 2 of each of so many cells, from the row 0 on: too little for a slide. */
    static void shave(SandcastleLeague league, int team, int firstCell, int cells) {
        for (int c = firstCell; c < firstCell + cells; c++) {
            league.dig(team, 3 * team + c % 3, c / 3, 2);
        }
    }

    static void pack(SandcastleLeague league, int team, int x, int y, int times) {
        for (int t = 0; t < times; t++) {
            league.pack(team, x, y);
        }
    }

    /** Piles so much in as few deeds as can be. */
    static void pile(SandcastleLeague league, int team, int x, int y, int sand) {
        for (int left = sand; left > 0; left -= 5) {
            league.pile(team, x, y, Math.min(left, 5));
        }
    }

    /** Packs the first cell of the team until so much of its strength is left. */
    static void tire(SandcastleLeague league, int team, int left) {
        for (int deeds = 0; deeds < 20 && league.team(team, 1) > left; deeds++) {
            league.pack(team, 3 * team, 0);
        }
    }

    static void counts(String when, SandcastleLeague league, int... want) {
        for (int what = 0; what < want.length; what++) {
            Check.due(when + ": count(" + what + ")", want[what], league.count(what));
        }
    }

    static void cellIs(SandcastleLeague league, int x, int y, int... want) {
        for (int what = 0; what < want.length; what++) {
            Check.due("cell(" + x + ", " + y + ", " + what + ")", want[what], league.cell(x, y, what));
        }
    }

    static void teamIs(String when, SandcastleLeague league, int team, int... want) {
        for (int what = 0; what < want.length; what++) {
            Check.due(when + ": team(" + team + ", " + what + ")", want[what], league.team(team, what));
        }
    }

    static void leaders(SandcastleLeague league, int... want) {
        for (int place = 0; place < want.length; place++) {
            Check.due("leader(" + place + ")", want[place], league.leader(place));
        }
    }

    static void beachIsAsAtFirst(SandcastleLeague league) {
        for (int y = 0; y < 10; y++) {
            for (int x = 0; x < 12; x++) {
                cellIs(league, x, y, 4, 0, 2 * y + 4, 0, 0, 0);
            }
        }
    }

    /** The checksum by numbers without an end, cut to 64 bits but once, at the end. */
    static long digestOf(SandcastleLeague league, int[] tides) {
        BigInteger d = BigInteger.valueOf(503);
        for (int what = 0; what <= 8; what++) {
            d = joined(d, league.count(what));
        }
        for (int level : tides) {
            d = joined(d, level);
        }
        for (int t = 0; t < league.count(1); t++) {
            for (int what = 0; what <= 7; what++) {
                d = joined(d, league.team(t, what));
            }
        }
        for (int y = 0; y < 10; y++) {
            for (int x = 0; x < 12; x++) {
                for (int what = 0; what <= 5; what++) {
                    d = joined(d, league.cell(x, y, what));
                }
            }
        }
        return d.longValue();
    }

    private static BigInteger joined(BigInteger d, int x) {
        return d.multiply(BigInteger.valueOf(31)).add(BigInteger.valueOf(x));
    }
}
