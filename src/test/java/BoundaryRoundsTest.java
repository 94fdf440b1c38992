/** The boundary cases of the promises 11, 12 and 13: hours, rounds of the league, and who leads. */
final class BoundaryRoundsTest extends TestKit {
    private BoundaryRoundsTest() {
    }

    public static void main(String[] args) {
        pass();
        endRound();
        leader();
        Check.finish("BoundaryRoundsTest");
    }

    // ---- promise 11

    private static void pass() {
        Check.sentence("Promise 11", "Lets hours go by", BoundaryRoundsTest::hoursGoBy);
        Check.sentence("Promise 11", "Returns how many sticks fell in them", BoundaryRoundsTest::sticksThatFell);
        Check.sentence("Promise 11", "Throws IllegalArgumentException if hours is not 1 to 48",
            BoundaryRoundsTest::noHours);
    }

    private static void hoursGoBy() {
        for (int hours : new int[] {1, 2, 11, 12, 13, 47, 48}) {
            SandcastleLeague atOnce = withTeams(2);
            SandcastleLeague byOne = withTeams(2);
            for (SandcastleLeague league : new SandcastleLeague[] {atOnce, byOne}) {
                league.dig(0, 0, 9, 4);
                league.pile(0, 1, 9, 4);
                league.plant(0, 0, 8);
                league.plant(1, 3, 1);
                pack(league, 1, 4, 0, 5);
            }
            int fell = 0;
            for (int h = 0; h < hours; h++) {
                fell += byOne.pass(1);
            }
            Check.due("fallen in " + hours, fell, atOnce.pass(hours));
            Check.due("the hour after " + hours, hours, atOnce.count(0));
            Check.due("all after " + hours, byOne.digest(), atOnce.digest());
        }
    }

    private static void sticksThatFell() {
        SandcastleLeague league = withTeams(2);
        tidesFrom(league, 0, 5, 0, 7, 9, 0);
        league.plant(0, 0, 0);
        league.plant(0, 1, 1);
        league.plant(0, 2, 2);
        league.plant(1, 3, 0);
        league.plant(1, 3, 9);
        Check.due("in the hour 0", 0, league.pass(1));
        Check.due("of both teams in the hours 1 and 2", 2, league.pass(2));
        Check.due("in the hours 3 and 4, those of before not again", 2, league.pass(2));
        Check.due("in 48 hours", 0, league.pass(5));
        Check.due("in this round", 4, league.count(7));
        league.endRound();
        league.plant(0, 0, 9);
        league.dig(0, 0, 9, 2);
        Check.due("in another round", 1, league.pass(1));
        Check.due("in the next hour", 0, league.pass(1));

        SandcastleLeague all = dry(4);
        for (int t = 0; t < 4; t++) {
            for (int y = 0; y < 3; y++) {
                all.plant(t, 3 * t, y);
            }
        }
        Check.due("all that can stand", 12, passAt(all, 30));
    }

    private static void noHours() {
        SandcastleLeague league = withTeams(1);
        for (int hours : new int[] {0, 49, -1, 60, MIN, MAX}) {
            Check.dueThrow("pass(" + hours + ")", league, Check.IAE, () -> league.pass(hours));
        }
        Check.due("pass(1)", 0, league.pass(1));
        Check.due("pass(48)", 0, league.pass(48));
        Check.due("the hour", 49, league.count(0));
    }

    // ---- promise 12

    private static void endRound() {
        Check.sentence("Promise 12", "Ends a round of the league", BoundaryRoundsTest::roundEnds);
        Check.sentence("Promise 12", "Returns how many rounds have ended", BoundaryRoundsTest::roundsThatEnded);
    }

    private static void roundEnds() {
        SandcastleLeague league = withTeams(4);
        league.dig(3, 9, 9, 4);
        league.pile(3, 10, 9, 3);
        pack(league, 2, 6, 9, 4);
        league.plant(1, 3, 9);
        league.plant(1, 3, 0);
        league.pass(3);
        league.endRound();
        SandcastleLeague fresh = withTeams(4);
        counts("ended", league, 3, 4, 0, 480, 0, 0, 0, 0, 1);
        teamIs("ended", league, 1, 0, 20, 0, 0, 120, 22, 0, 3);
        for (int t : new int[] {0, 2, 3}) {
            teamIs("ended", league, t, 0, 20, 0, 0, 120, 22, 0, 0);
        }
        beachIsAsAtFirst(league);
        // Nine hours on the hour is the first of the table again, and all goes as on a new beach.
        league.pass(9);
        league.endRound();
        league.plant(0, 0, 2);
        fresh.plant(0, 0, 2);
        for (int hours = 1; hours <= 12; hours++) {
            Check.due("sticks that fell", fresh.pass(1), league.pass(1));
            for (int what = 2; what <= 7; what++) {
                Check.due("count(" + what + ")", fresh.count(what), league.count(what));
            }
        }
    }

    private static void roundsThatEnded() {
        SandcastleLeague league = withTeams(2);
        Check.due("the first", 1, league.endRound());
        Check.due("the second, without an hour", 2, league.endRound());
        league.pass(1);
        Check.due("the third", 3, league.endRound());
        Check.due("the first without teams", 1, new SandcastleLeague().endRound());
    }

    // ---- promise 13

    private static void leader() {
        Check.sentence("Promise 13", "place: a place, from 0", BoundaryRoundsTest::placesFromZero);
        Check.sentence("Promise 13", "by league points .. the greater ones first",
            BoundaryRoundsTest::byLeaguePoints);
        Check.sentence("Promise 13", "of the same by points .. the greater ones first",
            BoundaryRoundsTest::byPoints);
        Check.sentence("Promise 13", "of the same by numbers", BoundaryRoundsTest::byNumbers);
        Check.sentence("Promise 13", "Throws IndexOutOfBoundsException if there are not so many teams",
            BoundaryRoundsTest::noSuchPlace);
    }

    /** In one hour each team gets as many points, 0 to 3, as it has sticks. */
    private static void points(SandcastleLeague league, int... points) {
        for (int t = 0; t < points.length; t++) {
            for (int stick = 0; stick < points[t]; stick++) {
                league.plant(t, 3 * t + stick, 9);
            }
        }
        league.pass(1);
    }

    private static void placesFromZero() {
        for (int teams = 1; teams <= 4; teams++) {
            SandcastleLeague league = withTeams(teams);
            for (int place = 0; place < teams; place++) {
                Check.due("place " + place + " of " + teams, place, league.leader(place));
            }
        }
    }

    private static void byLeaguePoints() {
        SandcastleLeague league = dry(4);
        points(league, 1, 2, 0, 3);
        league.endRound();
        // League points 1, 2, 0, 3.
        leaders(league, 3, 1, 0, 2);
        points(league, 2, 1, 3, 0);
        // The points of the round do not count where the league points differ.
        leaders(league, 3, 1, 0, 2);
    }

    private static void byPoints() {
        SandcastleLeague first = dry(4);
        points(first, 1, 2, 0, 3);
        leaders(first, 3, 1, 0, 2);

        SandcastleLeague pairs = dry(4);
        points(pairs, 1, 0, 1, 0);
        pairs.endRound();
        // League points 2, 0, 2, 0.
        points(pairs, 1, 2, 2, 3);
        leaders(pairs, 2, 0, 3, 1);
    }

    private static void byNumbers() {
        SandcastleLeague league = dry(4);
        leaders(league, 0, 1, 2, 3);
        points(league, 1, 1, 1, 1);
        leaders(league, 0, 1, 2, 3);

        SandcastleLeague pairs = dry(4);
        points(pairs, 0, 1, 0, 1);
        leaders(pairs, 1, 3, 0, 2);
        pairs.endRound();
        leaders(pairs, 1, 3, 0, 2);
    }

    private static void noSuchPlace() {
        for (int teams = 0; teams <= 4; teams++) {
            SandcastleLeague league = withTeams(teams);
            for (int place : new int[] {-1, teams, 4, MIN, MAX}) {
                Check.dueThrow("place " + place + " of " + teams, league, Check.IOOBE, () -> league.leader(place));
            }
        }
    }
}
