/** Runs of 512 calls, the same ones each time, compared with the plain model call by call. */
final class RandomRunsTest {
    private static final int RUNS = 300;
    private static final int CALLS = 512;
    private static final int[] ODD = {-1, 0, 1, 12, 31, 49, Integer.MAX_VALUE, Integer.MIN_VALUE,
        1 << 30, -(1 << 30), 357913942, 1431655766};

    private long seed;
    private final SandcastleLeague league = new SandcastleLeague();
    private final PlainModel model = new PlainModel();
    // What a run does most of: quiet beaches, castles and storms show different faults.
    private final int mood;

    private RandomRunsTest(int run) {
        seed = run * 7919L + 17;
        mood = run % 4;
    }

    public static void main(String[] args) {
        for (int run = 0; run < RUNS; run++) {
            new RandomRunsTest(run).play(run);
        }
        Check.finish("RandomRunsTest");
    }

    private int next(int below) {
        seed = seed * 6364136223846793005L + 1442695040888963407L;
        return (int) ((seed >>> 33) % below);
    }

    /** Mostly a number from..to, now and then one beside, or an odd one. */
    private int number(int from, int to) {
        int kind = next(60);
        if (kind == 0) {
            return ODD[next(ODD.length)];
        }
        if (kind == 1) {
            return next(2) == 0 ? from - 1 : to + 1;
        }
        return from + next(to - from + 1);
    }

    private void play(int run) {
        int teams = 1 + next(4);
        for (int t = 0; t < teams; t++) {
            same(run, "addTeam()", league::addTeam, model::addTeam);
        }
        for (int call = teams; call < CALLS; call++) {
            step(run);
            Check.due("run " + run + " digest after call " + call, model.digest(), league.digest());
        }
    }

    private void same(int run, String what, Check.Call got, Check.Call want) {
        long wanted = outcome(want);
        Check.due("run " + run + " " + what, wanted, outcome(got));
    }

    /** An exception becomes a number that no call answers here. */
    private static long outcome(Check.Call call) {
        try {
            return call.answer();
        } catch (RuntimeException e) {
            return Long.MIN_VALUE + Check.kindOf(e);
        }
    }

    private void step(int run) {
        int kind = next(100);
        int t = number(0, Math.max(0, model.teams.size() - 1));
        int x = next(30) == 0 ? number(0, 11) : 3 * Math.min(4, Math.max(0, t)) + next(3);
        int y = number(0, 9);
        if (kind < (mood == 1 ? 75 : 55)) {
            deed(run, t, x, y);
        } else if (kind < 68) {
            int hours = next(6) == 0 ? number(1, 48) : number(1, 3);
            same(run, "pass(" + hours + ")", () -> league.pass(hours), () -> model.pass(hours));
        } else if (kind < 74) {
            int h = number(0, 11);
            int level = number(0, mood == 2 ? 30 : mood == 3 ? 20 : 11);
            same(run, "setTide(" + h + ", " + level + ")", () -> league.setTide(h, level),
                () -> model.setTide(h, level));
        } else if (kind < 97) {
            question(run, t, x, y);
        } else if (kind < 98) {
            same(run, "endRound()", league::endRound, model::endRound);
        } else if (kind < 99 && next(3) == 0) {
            same(run, "addTeam()", league::addTeam, model::addTeam);
        } else {
            Check.dueDouble("run " + run + " mean()", model.mean(), league.mean());
        }
    }

    private void deed(int run, int t, int x, int y) {
        int n = next(3) == 0 ? number(1, 5) : 5;
        // A run of deeds at few places makes steep ones.
        int at = mood == 1 && next(3) > 0 ? 9 - next(3) : y;
        String where = "(" + t + ", " + x + ", " + at + ", " + n + ")";
        switch (next(5)) {
            case 0:
                same(run, "dig" + where, () -> league.dig(t, x, y, n), () -> model.dig(t, x, y, n));
                break;
            case 1:
            case 2:
                same(run, "pile" + where, () -> league.pile(t, x, at, n), () -> model.pile(t, x, at, n));
                break;
            case 3:
                same(run, "pack" + where, () -> league.pack(t, x, at), () -> model.pack(t, x, at));
                break;
            default:
                same(run, "plant" + where, () -> league.plant(t, x, at), () -> model.plant(t, x, at));
        }
    }

    private void question(int run, int t, int x, int y) {
        int what = number(0, 8);
        int hours = number(1, 48);
        int few = number(1, 12);
        int level = number(0, 30);
        String all = " of " + t + ", " + x + ", " + y + ", " + what + ", " + hours + ", " + few + ", " + level;
        switch (next(9)) {
            case 0:
                same(run, "cell" + all, () -> league.cell(x, y, what), () -> model.cell(x, y, what));
                break;
            case 1:
                same(run, "team" + all, () -> league.team(t, what), () -> model.team(t, what));
                break;
            case 2:
                same(run, "count" + all, () -> league.count(what), () -> model.count(what));
                break;
            case 3:
                same(run, "leader" + all, () -> league.leader(t), () -> model.leader(t));
                break;
            case 4:
                same(run, "flood" + all, () -> league.flood(level), () -> model.flood(level));
                break;
            case 5:
                same(run, "reach" + all, () -> league.reach(x, y), () -> model.reach(x, y));
                break;
            case 6:
                int which = what % 4;
                same(run, "foresee" + all, () -> league.foresee(hours, t, which),
                    () -> model.foresee(hours, t, which));
                break;
            case 7:
                same(run, "advise" + all, () -> league.advise(t, few), () -> model.advise(t, few));
                break;
            default:
                same(run, "flood" + all, () -> league.flood(hours), () -> model.flood(hours));
        }
    }
}
