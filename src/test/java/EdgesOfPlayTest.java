import java.util.function.Supplier;

/** One test for each sentence on promises 11 to 14 (and "PLAY") that names an edge. */
public final class EdgesOfPlayTest {
    private static final int[] FAR = {Due.MIN, Due.MIN + 1, Due.MAX - 1, Due.MAX};
    private static final Due due = new Due();

    public static void main(String[] args) {
        aServesFirstFromZeroOn();
        whoIsAOrB();
        fourHundredAtMost();
        badThenStateThenFull();
        overAtTheFourHundredth();
        pointsAreZeroThen();
        headStartStandsWhereAServes();
        headStartEndsGamesSooner();
        thereMayBeMoreThanTwenty();
        setNeedsTwoMore();
        tieIsOneGame();
        tieIsServedByWhoseTurnItIs();
        whoDidNotServeFirstServesTheNewSet();
        matchIsOverWithAllSets();
        theLastBoardStands();
        backIsOneToFourHundred();
        backTakesAsManyAsWere();
        backOverGamesSetsAndTheMatch();
        strengthsAreNotTakenBack();
        wonPointsByWhoServes();
        scoreKnowsThirteenThings();
        likeliestOfEighteenAtMost();
        likeliestOfSeveralIsTheLeast();
        fiveHundredTwelveCalls();
        due.end();
    }

    /** A GAME is one point. */
    private static RungPlay onePoint(int games, int sets) {
        RungPlay x = new RungPlay();
        x.set(2, 1);
        x.set(6, 1);
        x.set(3, games);
        x.set(4, sets);
        return x;
    }

    private static void tell(RungPlay x, int... winners) {
        for (int who : winners) {
            x.point(who);
        }
    }

    private static void scores(String what, RungPlay x, int from, int... wanted) {
        for (int k = 0; k < wanted.length; k++) {
            due.is(what + ": score " + (from + k), x.score(from + k), wanted[k]);
        }
    }

    /** PLAIN, and points in turn: no GAME ever ends. */
    private static RungPlay played(int points) {
        RungPlay x = new RungPlay();
        for (int n = 0; n < points; n++) {
            x.point(n % 2);
        }
        return x;
    }

    private static RungPlay over() {
        RungPlay x = onePoint(1, 1);
        tell(x, 1, 1);
        return x;
    }

    // "from 0 on, A serves first"
    private static void aServesFirstFromZeroOn() {
        RungPlay x = new RungPlay();
        scores("new", x, 0, 0, 0, 0, 0, 0, 0, 0, 0, 0, 0, 0, 0, Due.NONE);
        due.is("the first point", x.point(1), 1);
        scores("after one", x, 0, 0, 1, 0, 0, 0, 0, 0, 1, 0, 1, 0, 0, Due.NONE);
    }

    // "A POINT of A's (0), of B's (1)"; "BAD"
    private static void whoIsAOrB() {
        int[] none = {-1, 2, 3, -9};
        for (int who : none) {
            Seen.refused(due, "point " + who, RungPlay::new, x -> x.point(who), Due.BAD);
            Seen.refused(due, "point " + who, () -> played(3), x -> x.point(who), Due.BAD);
        }
        for (int who : FAR) {
            Seen.refused(due, "point " + who, () -> played(1), x -> x.point(who), Due.BAD);
        }
        due.is("A's", played(2).point(0), 3);
        due.is("B's", played(2).point(1), 3);
    }

    // "POINTS are told one by one (400 at most)"; "FULL"
    private static void fourHundredAtMost() {
        RungPlay x = played(399);
        due.is("399 played", x.score(7), 399);
        due.is("the 400th", x.point(1), 400);
        due.is("the 401st", x.point(0), Due.FULL);
        due.is("400 played", x.score(7), 400);
        due.is("one taken back", x.back(1), 1);
        due.is("the 400th anew", x.point(0), 400);
        due.is("the 401st anew", x.point(1), Due.FULL);
        scores("200 all, one B's is A's", x, 0, 0, 0, 1, 0, 0, 0, 1, 400, 201, 199);
        Supplier<RungPlay> full = () -> played(400);
        Seen.refused(due, "A's when it is full", full, y -> y.point(0), Due.FULL);
        Seen.refused(due, "B's when it is full", full, y -> y.point(1), Due.FULL);
    }

    // "the first of these: BAD ..., STATE (as told), FULL"
    private static void badThenStateThenFull() {
        int[] none = {-1, 2, Due.MIN, Due.MAX};
        for (int who : none) {
            Seen.refused(due, "BAD when full", () -> played(400), x -> x.point(who), Due.BAD);
            Seen.refused(due, "BAD when over", EdgesOfPlayTest::over, x -> x.point(who), Due.BAD);
        }
        for (int who = 0; who <= 1; who++) {
            int one = who;
            Seen.refused(due, "STATE when over", EdgesOfPlayTest::over, x -> x.point(one),
                    Due.STATE);
        }
    }

    private static RungPlay overAndFull() {
        RungPlay x = new RungPlay();
        x.set(3, 1);
        x.set(4, 1);
        // 197 all, then A's two games to 0.
        for (int n = 1; n <= 400; n++) {
            x.point(n <= 394 ? n % 2 : 0);
        }
        return x;
    }

    private static void overAtTheFourHundredth() {
        RungPlay x = overAndFull();
        due.is("A won", x.score(12), 0);
        due.is("400 played", x.score(7), 400);
        for (int who = 0; who <= 1; who++) {
            int one = who;
            Seen.refused(due, "STATE ahead of FULL", EdgesOfPlayTest::overAndFull,
                    y -> y.point(one), Due.STATE);
        }
        Seen.refused(due, "BAD ahead of both", EdgesOfPlayTest::overAndFull, y -> y.point(2),
                Due.BAD);
        due.is("one back", x.back(1), 1);
        due.is("not over", x.score(12), Due.NONE);
        due.is("another 400th", x.point(1), 400);
        due.is("full, not over", x.point(0), Due.FULL);
    }

    // "one more of its winner's, points 0 (and the HEAD START) then; who serves changes"
    private static void pointsAreZeroThen() {
        RungPlay x = new RungPlay();
        tell(x, 0, 0, 1, 0);
        scores("3-1", x, 0, 3, 1, 0, 0, 0, 0, 0);
        tell(x, 0);
        scores("A's game", x, 0, 0, 0, 1, 0, 0, 0, 1);
        tell(x, 0, 1, 1, 1);
        scores("1-3", x, 0, 1, 3, 1, 0, 0, 0, 1);
        tell(x, 1);
        scores("B's game", x, 0, 0, 0, 1, 1, 0, 0, 0);
    }

    // "a HEAD START of A's is h points in each GAME of its own serve"
    private static void headStartStandsWhereAServes() {
        for (int to = 1; to <= 5; to++) {
            RungPlay x = new RungPlay();
            x.set(2, to);
            int most = Math.max(0, to - 2);
            x.set(5, most);
            due.is("before the first point", x.score(0), most);
            due.is("B has none", x.score(1), 0);
            tell(x, 1);
            due.is("in the game", x.score(0), most);
            x.back(1);
            due.is("taken back", x.score(0), most);
            due.is("to none", x.set(5, 0), most);
            due.is("none", x.score(0), 0);
        }
        RungPlay x = new RungPlay();
        x.set(5, 2);
        tell(x, 0, 0);
        scores("B serves", x, 0, 0, 0, 1, 0, 0, 0, 1, 2);
        tell(x, 1, 1, 1, 1);
        scores("A serves", x, 0, 2, 0, 1, 1, 0, 0, 0, 6);
    }

    // "WON (by the KIND at hand, with HEAD STARTS, as they are then)"
    private static void headStartEndsGamesSooner() {
        RungPlay x = new RungPlay();
        x.set(2, 3);
        x.set(5, 1);
        x.set(6, 2);
        tell(x, 0);
        scores("1 and 1 to 0 by SHORT", x, 0, 0, 0, 1, 0);
        tell(x, 1, 1);
        scores("0 to 2 by SHORT", x, 0, 1, 0, 1, 1);
        tell(x, 1, 1);
        scores("a head start is more than 0", x, 0, 1, 2, 1, 1);
        tell(x, 1);
        scores("1 to 3", x, 0, 0, 0, 1, 2);
        RungPlay plain = new RungPlay();
        plain.set(5, 2);
        tell(plain, 1, 1, 1, 1);
        scores("2 to 4 by PLAIN", plain, 0, 0, 0, 0, 1);
        RungPlay sudden = new RungPlay();
        sudden.set(5, 2);
        sudden.set(6, 1);
        tell(sudden, 1, 1, 0, 1, 0);
        scores("4 to 3 by SUDDEN", sudden, 0, 0, 0, 1, 0, 0, 0, 1, 5);
    }

    // "in PLAY there may be more"
    private static void thereMayBeMoreThanTwenty() {
        RungPlay x = played(42);
        scores("21 all", x, 0, 21, 21, 0, 0);
        tell(x, 1);
        scores("21 to 22", x, 0, 21, 22, 0, 0);
        tell(x, 1);
        scores("21 to 23", x, 0, 0, 0, 0, 1, 0, 0, 1, 44);
    }

    // "who first has G, and 2 more than the other one"
    private static void setNeedsTwoMore() {
        for (int games = 2; games <= 6; games++) {
            RungPlay x = onePoint(games, 3);
            for (int n = 0; n < games - 1; n++) {
                tell(x, 0, 1);
            }
            scores("G - 1 all", x, 2, games - 1, games - 1, 0, 0);
            tell(x, 0);
            scores("G, 1 more", x, 2, games, games - 1, 0, 0);
            tell(x, 0);
            scores("G + 1, 2 more", x, 2, 0, 0, 1, 0);
            x.back(3);
            scores("G - 1, G - 2", x, 2, games - 1, games - 2, 0, 0);
            tell(x, 0);
            scores("G, 2 more", x, 2, 0, 0, 1, 0);
        }
        RungPlay x = onePoint(6, 1);
        tell(x, 1, 1, 1, 1, 1);
        scores("0 to 5", x, 2, 0, 5, 0, 0);
        tell(x, 1);
        scores("0 to 6", x, 2, 0, 0, 0, 1);
    }

    // "(at G all the TIE is one GAME"
    private static void tieIsOneGame() {
        for (int games = 1; games <= 6; games++) {
            for (int who = 0; who <= 1; who++) {
                RungPlay x = onePoint(games, 2);
                for (int n = 0; n < games; n++) {
                    tell(x, 0, 1);
                }
                scores("G all", x, 2, games, games, 0, 0);
                tell(x, who);
                scores("the TIE", x, 2, 0, 0, 1 - who, who);
                due.is("taken back", x.back(1), 1);
                scores("G all again", x, 2, games, games, 0, 0);
            }
        }
        RungPlay plain = new RungPlay();
        plain.set(2, 2);
        plain.set(3, 1);
        tell(plain, 0, 0, 1, 1);
        scores("1 all", plain, 0, 0, 0, 1, 1, 0, 0, 0);
        tell(plain, 0, 1, 0);
        scores("the TIE is a GAME of the KIND at hand", plain, 0, 2, 1, 1, 1, 0, 0, 0);
        tell(plain, 0);
        scores("the TIE is A's", plain, 0, 0, 0, 0, 0, 1, 0, 1);
    }

    // "served by whose turn it is)": in the TIE, too, who serves is as it was by turns
    private static void tieIsServedByWhoseTurnItIs() {
        RungPlay x = onePoint(1, 3);
        tell(x, 0, 1);
        scores("the TIE of the first set", x, 2, 1, 1, 0, 0, 0);
        tell(x, 0, 1, 0);
        scores("the TIE of the second set", x, 2, 1, 1, 1, 0, 1);
        RungPlay ahead = new RungPlay();
        ahead.set(2, 3);
        ahead.set(3, 1);
        ahead.set(5, 1);
        tell(ahead, 0, 0, 1, 1, 1);
        scores("A serves the TIE with its head start", ahead, 0, 1, 0, 1, 1, 0, 0, 0);
        tell(ahead, 0, 0);
        scores("3 to 0", ahead, 0, 0, 0, 0, 0, 1, 0, 1);
    }

    // "In a new SET who did not serve its first GAME ahead serves."
    private static void whoDidNotServeFirstServesTheNewSet() {
        RungPlay even = onePoint(2, 3);
        tell(even, 0, 0);
        scores("after two games", even, 2, 0, 0, 1, 0, 1);
        RungPlay odd = onePoint(2, 3);
        tell(odd, 0, 1, 0, 0);
        scores("after four games", odd, 2, 0, 0, 1, 0, 1);
        RungPlay tie = onePoint(2, 3);
        tell(tie, 0, 1, 0, 1, 1);
        scores("after the TIE", tie, 2, 0, 0, 0, 1, 1);
        tell(tie, 0, 0);
        scores("after the second set", tie, 2, 0, 0, 1, 1, 0);
        RungPlay three = onePoint(3, 3);
        tell(three, 1, 1, 1);
        scores("after three games", three, 2, 0, 0, 0, 1, 1);
        tell(three, 0, 0, 0);
        scores("after three more", three, 2, 0, 0, 1, 1, 0);
        RungPlay ahead = new RungPlay();
        ahead.set(2, 3);
        ahead.set(3, 2);
        ahead.set(5, 1);
        tell(ahead, 0, 0, 0, 0, 0);
        scores("B serves the new set: no head start", ahead, 0, 0, 0, 0, 0, 1, 0, 1);
    }

    // "The MATCH is over when one has S SETS."
    private static void matchIsOverWithAllSets() {
        for (int sets = 1; sets <= 3; sets++) {
            for (int who = 0; who <= 1; who++) {
                RungPlay x = onePoint(2, sets);
                for (int n = 1; n < sets; n++) {
                    tell(x, who, who, 1 - who, 1 - who);
                }
                scores("S - 1 all", x, 4, sets - 1, sets - 1);
                due.is("nobody yet", x.score(12), Due.NONE);
                tell(x, who);
                due.is("nobody yet, one game short", x.score(12), Due.NONE);
                tell(x, who);
                due.is("who won", x.score(12), who);
                due.is("the winner's sets", x.score(4 + who), sets);
                due.is("the other one's sets", x.score(5 - who), sets - 1);
                due.is("no more points", x.point(who), Due.STATE);
                due.is("no more points", x.point(1 - who), Due.STATE);
            }
        }
    }

    // The document is silent here: a SET that ends the MATCH ends as any other one.
    private static void theLastBoardStands() {
        RungPlay x = onePoint(2, 2);
        tell(x, 0, 0, 1, 0, 0, 1, 0);
        scores("over", x, 0, 0, 0, 0, 0, 2, 0, 0, 7, 2, 1, 3, 1, 0);
        x.point(1);
        scores("still over", x, 0, 0, 0, 0, 0, 2, 0, 0, 7, 2, 1, 3, 1, 0);
    }

    // "n POINTS (1 .. 400) are taken BACK"; "BAD."
    private static void backIsOneToFourHundred() {
        int[] no = {0, -1, 401, 402, Due.MIN, Due.MAX};
        for (int n : no) {
            Seen.refused(due, "back " + n, () -> played(5), x -> x.back(n), Due.BAD);
            Seen.refused(due, "back " + n, RungPlay::new, x -> x.back(n), Due.BAD);
        }
        due.is("back 1", played(5).back(1), 1);
        due.is("back 400", played(5).back(400), 5);
        due.is("back 400 of 400", played(400).back(400), 400);
        due.is("back 399 of 400", played(400).back(399), 399);
    }

    // "as many as were: how many."
    private static void backTakesAsManyAsWere() {
        for (int n = 1; n <= 7; n++) {
            RungPlay x = played(5);
            due.is("back " + n + " of 5", x.back(n), Math.min(n, 5));
            due.is("left", x.score(7), Math.max(0, 5 - n));
            due.is("back all", x.back(400), Math.max(0, 5 - n));
            due.is("back of none", x.back(1), 0);
            due.is("back of none", x.back(400), 0);
        }
        RungPlay x = played(5);
        x.back(5);
        Seen.same(due, "all taken back", Seen.of(x), Seen.of(new RungPlay()));
    }

    // "BACK: the latest POINT is taken back."
    private static void backOverGamesSetsAndTheMatch() {
        RungPlay x = new RungPlay();
        x.set(2, 3);
        x.set(3, 1);
        x.set(4, 2);
        x.set(5, 1);
        x.set(6, 2);
        int[] winners = {0, 1, 1, 0, 1, 0, 0, 1, 0, 0, 1, 0, 1, 1, 0, 0};
        long[][] seen = new long[winners.length + 1][];
        int played = 0;
        seen[0] = boardOf(x);
        while (played < winners.length && x.score(12) == Due.NONE) {
            x.point(winners[played]);
            played++;
            seen[played] = boardOf(x);
        }
        due.is("over", x.score(12), 0);
        for (int n = played - 1; n >= 0; n--) {
            due.is("one back", x.back(1), 1);
            same("back to " + n, boardOf(x), seen[n]);
        }
        tell(x, winners);
        due.is("three back", x.back(3), 3);
        same("three back", boardOf(x), seen[played - 3]);
    }

    private static long[] boardOf(RungPlay x) {
        long[] board = new long[13];
        for (int what = 0; what < board.length; what++) {
            board[what] = x.score(what);
        }
        return board;
    }

    private static void same(String what, long[] now, long[] before) {
        for (int k = 0; k < before.length; k++) {
            due.is(what + ": score " + k, now[k], before[k]);
        }
    }

    private static void strengthsAreNotTakenBack() {
        RungPlay x = new RungPlay();
        x.point(0);
        x.set(0, 9);
        x.won(2, 0, 0);
        x.back(1);
        due.is("a stays", x.count(0), 9);
        due.is("the trace stays", x.trace(), 111);
    }

    // "8, 9 POINTS of A's own serve that A won, lost, 10, 11 of B's serve that A won, lost"
    private static void wonPointsByWhoServes() {
        RungPlay x = onePoint(6, 3);
        int[] due8to11 = {0, 0, 0, 0};
        int[] winners = {0, 0, 1, 1, 0, 1, 0, 1, 1, 0};
        for (int n = 0; n < winners.length; n++) {
            due8to11[n % 2 * 2 + winners[n]]++;
            x.point(winners[n]);
            scores("point " + n, x, 8, due8to11);
        }
        x.back(400);
        scores("none", x, 8, 0, 0, 0, 0);
        RungPlay ahead = new RungPlay();
        ahead.set(5, 2);
        scores("a head start is not won", ahead, 8, 0, 0, 0, 0);
    }

    // "12 who won the MATCH (NONE). BAD."
    private static void scoreKnowsThirteenThings() {
        int[] none = {-1, 13, 14, Due.MIN, Due.MAX};
        for (int what : none) {
            Seen.refused(due, "score " + what, RungPlay::new, x -> x.score(what), Due.BAD);
            Seen.refused(due, "score " + what, EdgesOfPlayTest::over, x -> x.score(what),
                    Due.BAD);
        }
        due.is("nobody", new RungPlay().score(12), Due.NONE);
        due.is("B", over().score(12), 1);
        RungPlay x = over();
        x.back(1);
        due.is("nobody again", x.score(12), Due.NONE);
    }

    // "w points won, l lost (18 at most together)"; "BAD: w, l 0 .. 18, 18 at most together."
    private static void likeliestOfEighteenAtMost() {
        RungPlay x = new RungPlay();
        due.is("18 0", x.likeliest(18, 0), 9);
        due.is("0 18", x.likeliest(0, 18), 1);
        due.is("17 1", x.likeliest(17, 1), 9);
        due.is("1 17", x.likeliest(1, 17), 1);
        due.is("9 9", x.likeliest(9, 9), 5);
        for (int w = 1; w <= 18; w++) {
            int won = w;
            Seen.refused(due, "19 together, " + w, RungPlay::new, y -> y.likeliest(won, 19 - won),
                    Due.BAD);
        }
        int[] no = {-1, 19, 20, Due.MIN, Due.MAX};
        for (int v : no) {
            Seen.refused(due, "w " + v, RungPlay::new, y -> y.likeliest(v, 0), Due.BAD);
            Seen.refused(due, "l " + v, RungPlay::new, y -> y.likeliest(0, v), Due.BAD);
            Seen.refused(due, "both " + v, RungPlay::new, y -> y.likeliest(v, v), Due.BAD);
        }
        due.is("wrapped around to 0", x.likeliest(Due.MIN, Due.MIN), Due.BAD);
        due.is("wrapped around to -2", x.likeliest(Due.MAX, Due.MAX), Due.BAD);
        due.is("together 0", x.likeliest(-1, 1), Due.BAD);
        due.is("together 18", x.likeliest(19, -1), Due.BAD);
        due.is("together 18", x.likeliest(-1, 19), Due.BAD);
    }

    // "of several the least"
    private static void likeliestOfSeveralIsTheLeast() {
        RungPlay x = new RungPlay();
        due.is("0 0: all are the same", x.likeliest(0, 0), 1);
        int several = 0;
        for (int w = 0; w <= 18; w++) {
            for (int l = 0; w + l <= 18; l++) {
                int told = x.likeliest(w, l);
                long greatest = parts(told, w, l);
                for (int s = 1; s <= 9; s++) {
                    String at = w + " " + l + ": " + told + " or " + s;
                    due.holds(at, s < told ? parts(s, w, l) < greatest
                            : parts(s, w, l) <= greatest);
                    several += s > told && parts(s, w, l) == greatest ? 1 : 0;
                }
            }
        }
        due.is("there are several of 0 0 alone", several, 8);
    }

    private static long parts(int strength, int w, int l) {
        long parts = 1;
        for (int n = 0; n < w + l; n++) {
            parts *= n < w ? strength : 10 - strength;
        }
        return parts;
    }

    // "An object is used for at most 512 calls after it has been made"
    private static void fiveHundredTwelveCalls() {
        RungPlay x = new RungPlay();
        for (int n = 1; n <= 400; n++) {
            due.is("point " + n, x.point(n % 2), n);
        }
        for (int n = 1; n <= 56; n++) {
            due.is("one back", x.back(1), 1);
            due.is("one anew", x.point(n % 2), 400);
        }
        due.is("calls", 400 + 2 * 56, 512);
        RungPlay y = new RungPlay();
        for (int n = 0; n < 511; n++) {
            y.set(0, 1 + n % 9);
        }
        due.is("the 512th", y.count(0), 1 + 510 % 9);
    }
}
