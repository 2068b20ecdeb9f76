import java.util.function.Supplier;

/** One test for each sentence on promises 1, 2, 3, 15, 16 (and "Terms") that names an edge. */
public final class EdgesOfRulesTest {
    private static final int[] FAR = {Due.MIN, Due.MIN + 1, -2, -1, Due.MAX - 1, Due.MAX};
    private static final Due due = new Due();

    public static void main(String[] args) {
        strengthsAreOneToNine();
        pointsAreOneToFive();
        gamesAreOneToSix();
        setsAreOneToThree();
        headStartIsUpToPointsLessTwo();
        kindsAreThree();
        thereAreSevenThings();
        pointsToldAnewMakeTheHeadStartNone();
        otherThingsToldAnewLeaveTheHeadStart();
        stateWhileAPointWasPlayed();
        noStateForStrengths();
        noStateWithoutAPoint();
        badComesAheadOfState();
        refusedSetsChangeNothing();
        wonIsAskedOfZeroToTwenty();
        wonIsAskedOfThreeKinds();
        plainNeedsTwoMore();
        suddenNeedsOneMore();
        shortNeedsOneLessAgainstNothing();
        shortIsAsSuddenBelowThreePoints();
        kindsTakeWhatIsUp();
        traceCountsBodiesAskedByWonAlone();
        refusedWonIsNotTraced();
        countKnowsSevenThings();
        newObjectsAreApart();
        due.end();
    }

    private static RungPlay toPoints(int to) {
        RungPlay x = new RungPlay();
        x.set(2, to);
        return x;
    }

    private static RungPlay inPlay() {
        RungPlay x = new RungPlay();
        x.set(5, 1);
        x.won(2, 1, 1);
        x.point(1);
        return x;
    }

    private static RungPlay overAtOnce() {
        RungPlay x = new RungPlay();
        x.set(2, 1);
        x.set(3, 1);
        x.set(4, 1);
        x.set(6, 1);
        x.point(0);
        x.point(0);
        return x;
    }

    /** All from least to most is taken, and told as what it was; next to it and far off, BAD. */
    private static void range(int what, int first, int least, int most) {
        RungPlay x = new RungPlay();
        due.is("at first " + what, x.count(what), first);
        int was = first;
        for (int v = least; v <= most; v++) {
            due.is("set " + what + " " + v, x.set(what, v), was);
            due.is("count " + what, x.count(what), v);
            was = v;
        }
        due.is("set back " + what, x.set(what, least), most);
        for (int v : new int[] {least - 1, most + 1}) {
            due.is("set " + what + " " + v, x.set(what, v), Due.BAD);
        }
        for (int v : FAR) {
            due.is("set " + what + " " + v, x.set(what, v), Due.BAD);
        }
        due.is("count after BAD " + what, x.count(what), least);
    }

    // "A wins a point of its own serve in a of 10, one of B's serve in b of 10
    // (1 .. 9 each; 6 and 4 at first)"
    private static void strengthsAreOneToNine() {
        range(0, 6, 1, 9);
        range(1, 4, 1, 9);
        RungPlay x = toPoints(1);
        x.set(6, 1);
        for (int v = 1; v <= 9; v++) {
            x.set(0, v);
            x.set(1, 10 - v);
            due.is("A's own serve, " + v, x.game(0), v * 100000);
            due.is("B's serve, " + (10 - v), x.game(1), (10 - v) * 100000);
        }
    }

    // "a GAME goes to P points (1 .. 5; 4 at first)"
    private static void pointsAreOneToFive() {
        range(2, 4, 1, 5);
    }

    // "a SET to G GAMES (1 .. 6; 6 at first)"
    private static void gamesAreOneToSix() {
        range(3, 6, 1, 6);
    }

    // "the MATCH to S SETS (1 .. 3; 2 at first)"
    private static void setsAreOneToThree() {
        range(4, 2, 1, 3);
    }

    // "(0 .. P - 2, 0 where P is 1; 0 at first)"
    private static void headStartIsUpToPointsLessTwo() {
        range(5, 0, 0, 2);
        int[] most = {0, 0, 0, 1, 2, 3};
        for (int to = 1; to <= 5; to++) {
            RungPlay x = toPoints(to);
            due.is("most of " + to, x.set(5, most[to]), 0);
            due.is("more than the most of " + to, x.set(5, most[to] + 1), Due.BAD);
            due.is("less than none of " + to, x.set(5, -1), Due.BAD);
            due.is("it stays, " + to, x.count(5), most[to]);
            due.is("none of " + to, x.set(5, 0), most[to]);
        }
    }

    // "ENDS are of KINDS over one another: 0 PLAIN (at hand at first), 1 SUDDEN, 2 SHORT"
    private static void kindsAreThree() {
        range(6, 0, 0, 2);
    }

    // "a (what = 0), b (1), P (2), G (3), S (4), h (5), the KIND at hand (6)"; "BAD"
    private static void thereAreSevenThings() {
        int[] none = {-1, 7, 8, Due.MIN, Due.MAX};
        for (int what : none) {
            for (int v = -1; v <= 3; v++) {
                int value = v;
                Seen.refused(due, "set " + what + " " + v, RungPlay::new,
                        x -> x.set(what, value), Due.BAD);
            }
        }
    }

    // "(P told anew: h is 0 then.)"
    private static void pointsToldAnewMakeTheHeadStartNone() {
        for (int to = 1; to <= 5; to++) {
            RungPlay x = new RungPlay();
            x.set(5, 2);
            due.is("points " + to, x.set(2, to), 4);
            due.is("none by points " + to, x.count(5), 0);
            due.is("none on the board by points " + to, x.score(0), 0);
        }
    }

    private static void otherThingsToldAnewLeaveTheHeadStart() {
        RungPlay x = new RungPlay();
        x.set(5, 2);
        for (int what = 0; what < 7; what++) {
            if (what != 2) {
                due.is("again " + what, x.set(what, x.count(what)), x.count(what));
                due.is("it stays by " + what, x.count(5), 2);
            }
        }
        due.is("BAD points", x.set(2, 0), Due.BAD);
        due.is("BAD points", x.set(2, 6), Due.BAD);
        due.is("it stays by BAD points", x.count(5), 2);
    }

    // "STATE: P, G, S, h, KIND, while a POINT was played."
    private static void stateWhileAPointWasPlayed() {
        for (int what = 2; what <= 6; what++) {
            int thing = what;
            int least = what < 5 ? 1 : 0;
            Seen.refused(due, "in play, set " + what, EdgesOfRulesTest::inPlay,
                    x -> x.set(thing, least), Due.STATE);
            Seen.refused(due, "in play, set as it is " + what, EdgesOfRulesTest::inPlay,
                    x -> x.set(thing, x.count(thing)), Due.STATE);
            Seen.refused(due, "when it is over, set " + what, EdgesOfRulesTest::overAtOnce,
                    x -> x.set(thing, least), Due.STATE);
        }
        RungPlay x = inPlay();
        x.point(0);
        x.back(1);
        due.is("one point is left", x.set(3, 2), Due.STATE);
    }

    private static void noStateForStrengths() {
        RungPlay x = inPlay();
        due.is("a in play", x.set(0, 9), 6);
        due.is("b in play", x.set(1, 9), 4);
        due.is("a is told", x.count(0), 9);
        due.is("b is told", x.count(1), 9);
        RungPlay over = overAtOnce();
        due.is("a when it is over", over.set(0, 1), 6);
        due.is("b when it is over", over.set(1, 1), 4);
    }

    private static void noStateWithoutAPoint() {
        RungPlay x = new RungPlay();
        due.is("a point of nobody's", x.point(2), Due.BAD);
        for (int what = 2; what <= 6; what++) {
            due.is("nothing was played, set " + what, x.set(what, x.count(what)), x.count(what));
        }
        x.point(0);
        x.point(1);
        due.is("all taken back", x.back(400), 2);
        for (int what = 2; what <= 6; what++) {
            due.is("nothing is played, set " + what, x.set(what, x.count(what)), x.count(what));
        }
    }

    // "the first of these: BAD (a number is not as told, or there is no such thing), STATE"
    private static void badComesAheadOfState() {
        int[] above = {10, 10, 6, 7, 4, 3, 3};
        for (int what = 0; what <= 6; what++) {
            int thing = what;
            Seen.refused(due, "BAD in play, set " + what, EdgesOfRulesTest::inPlay,
                    x -> x.set(thing, above[thing]), Due.BAD);
            Seen.refused(due, "BAD in play, set " + what, EdgesOfRulesTest::inPlay,
                    x -> x.set(thing, -1), Due.BAD);
        }
        Seen.refused(due, "no such thing in play", EdgesOfRulesTest::inPlay,
                x -> x.set(7, 1), Due.BAD);
        Seen.refused(due, "no such thing in play", EdgesOfRulesTest::inPlay,
                x -> x.set(-1, 1), Due.BAD);
    }

    // "Refused, and nothing changes"
    private static void refusedSetsChangeNothing() {
        Supplier<RungPlay> made = () -> {
            RungPlay x = toPoints(5);
            x.set(5, 3);
            x.set(6, 2);
            x.won(1, 0, 0);
            return x;
        };
        int[][] bad = {{0, 0}, {0, 10}, {1, 0}, {1, 10}, {2, 0}, {2, 6}, {3, 0}, {3, 7}, {4, 0},
            {4, 4}, {5, -1}, {5, 4}, {6, -1}, {6, 3}, {7, 0}, {-1, 0}};
        for (int[] told : bad) {
            Seen.refused(due, "set " + told[0] + " " + told[1], made,
                    x -> x.set(told[0], told[1]), Due.BAD);
        }
    }

    // "(won() is asked of 0 .. 20 each; in PLAY there may be more)"
    private static void wonIsAskedOfZeroToTwenty() {
        RungPlay x = new RungPlay();
        for (int kind = 0; kind <= 2; kind++) {
            due.is("0 0 by " + kind, x.won(kind, 0, 0), 0);
            due.is("20 0 by " + kind, x.won(kind, 20, 0), 1);
            due.is("0 20 by " + kind, x.won(kind, 0, 20), 2);
            due.is("20 20 by " + kind, x.won(kind, 20, 20), 0);
        }
        int[] no = {-1, 21, 22, Due.MIN, Due.MAX};
        for (int v : no) {
            for (int kind = 0; kind <= 2; kind++) {
                due.is("i " + v, x.won(kind, v, 3), Due.BAD);
                due.is("j " + v, x.won(kind, 3, v), Due.BAD);
                due.is("both " + v, x.won(kind, v, v), Due.BAD);
            }
        }
    }

    private static void wonIsAskedOfThreeKinds() {
        int[] none = {-1, 3, 4, Due.MIN, Due.MAX};
        for (int kind : none) {
            Seen.refused(due, "won by " + kind, RungPlay::new, x -> x.won(kind, 4, 0), Due.BAD);
        }
    }

    // "PLAIN: who has P or more, and 2 more than the other one at least (1)"
    private static void plainNeedsTwoMore() {
        for (int to = 1; to <= 5; to++) {
            RungPlay x = toPoints(to);
            int two = Math.max(0, to - 2);
            due.is("P, 2 more", x.won(0, Math.max(to, 2), two), 1);
            due.is("P, 2 fewer", x.won(0, two, Math.max(to, 2)), 2);
            due.is("P, 1 more", x.won(0, to, to - 1), 0);
            due.is("P, 1 fewer", x.won(0, to - 1, to), 0);
            due.is("P all", x.won(0, to, to), 0);
            due.is("less than P", x.won(0, to - 1, 0), 0);
            due.is("less than P of the other one's", x.won(0, 0, to - 1), 0);
            due.is("20 to 19", x.won(0, 20, 19), 0);
            due.is("20 to 18", x.won(0, 20, 18), 1);
            due.is("18 to 20", x.won(0, 18, 20), 2);
        }
        due.is("to 1, 1 0", toPoints(1).won(0, 1, 0), 0);
        due.is("to 1, 2 0", toPoints(1).won(0, 2, 0), 1);
        due.is("to 5, 4 2", toPoints(5).won(0, 4, 2), 0);
    }

    // "SUDDEN: up; if that is none, who has P or more, and more than the other one (10)"
    private static void suddenNeedsOneMore() {
        for (int to = 1; to <= 5; to++) {
            RungPlay x = toPoints(to);
            due.is("P, 1 more", x.won(1, to, to - 1), 1);
            due.is("P, 1 fewer", x.won(1, to - 1, to), 2);
            due.is("P all", x.won(1, to, to), 0);
            due.is("P - 1, 0", x.won(1, to - 1, 0), 0);
            due.is("0, P - 1", x.won(1, 0, to - 1), 0);
            due.is("20 to 19", x.won(1, 20, 19), 1);
            due.is("19 to 20", x.won(1, 19, 20), 2);
        }
    }

    // "SHORT: up; if that is none, and P is 3 or more: who has P - 1 or more, where the other one
    // has 0 (100)"
    private static void shortNeedsOneLessAgainstNothing() {
        for (int to = 3; to <= 5; to++) {
            RungPlay x = toPoints(to);
            due.is("P - 1, 0", x.won(2, to - 1, 0), 1);
            due.is("0, P - 1", x.won(2, 0, to - 1), 2);
            due.is("P - 2, 0", x.won(2, to - 2, 0), 0);
            due.is("0, P - 2", x.won(2, 0, to - 2), 0);
            due.is("P - 1, 1", x.won(2, to - 1, 1), 0);
            due.is("1, P - 1", x.won(2, 1, to - 1), 0);
            due.is("P, 0", x.won(2, to, 0), 1);
            due.is("0, P", x.won(2, 0, to), 2);
        }
    }

    private static void shortIsAsSuddenBelowThreePoints() {
        for (int to = 1; to <= 2; to++) {
            RungPlay x = toPoints(to);
            for (int i = 0; i <= 4; i++) {
                for (int j = 0; j <= 4; j++) {
                    due.is("short as sudden " + i + " " + j, x.won(2, i, j), x.won(1, i, j));
                }
            }
            due.is("P - 1, 0", x.won(2, to - 1, 0), 0);
            due.is("0, P - 1", x.won(2, 0, to - 1), 0);
        }
    }

    // "up" is what the KIND that stands over it does: what is won there, is won here
    private static void kindsTakeWhatIsUp() {
        for (int to = 1; to <= 5; to++) {
            for (int i = 0; i <= 7; i++) {
                RungPlay x = toPoints(to);
                for (int j = 0; j <= 7; j++) {
                    for (int kind = 1; kind <= 2; kind++) {
                        int up = x.won(kind - 1, i, j);
                        int here = x.won(kind, i, j);
                        due.holds("up of " + kind + " at " + i + " " + j, up == 0 || here == up);
                    }
                }
            }
        }
    }

    // "numbers in brackets come to THE TRACE as often as won() asks that body"
    private static void traceCountsBodiesAskedByWonAlone() {
        int[] comes = {1, 11, 111};
        for (int to = 1; to <= 5; to++) {
            for (int kind = 0; kind <= 2; kind++) {
                RungPlay x = toPoints(to);
                int[][] scores = {{0, 0}, {20, 0}, {0, 20}, {to - 1, 0}, {to, to - 1}, {20, 20}};
                for (int n = 0; n < scores.length; n++) {
                    x.won(kind, scores[n][0], scores[n][1]);
                    due.is("trace of " + kind + " to " + to, x.trace(), (n + 1) * comes[kind]);
                }
            }
        }
        RungPlay x = new RungPlay();
        x.set(6, 2);
        due.is("a new trace", x.trace(), 0);
        for (int n = 0; n < 511 - 3; n++) {
            x.won(2, n % 21, n / 21 % 21);
        }
        due.is("the longest trace", x.trace(), 508 * 111);
    }

    private static void refusedWonIsNotTraced() {
        int[][] bad = {{-1, 0, 0}, {3, 0, 0}, {2, -1, 0}, {2, 0, -1}, {2, 21, 0}, {2, 0, 21},
            {1, 21, 21}, {0, 0, Due.MIN}};
        for (int[] v : bad) {
            Seen.refused(due, "won " + v[0] + " " + v[1] + " " + v[2], RungPlay::new,
                    x -> x.won(v[0], v[1], v[2]), Due.BAD);
        }
    }

    // "0 a, 1 b, 2 P, 3 G, 4 S, 5 h, 6 the KIND at hand. BAD."
    private static void countKnowsSevenThings() {
        RungPlay x = new RungPlay();
        int[] told = {7, 2, 5, 3, 1, 3, 2};
        for (int what = 0; what <= 6; what++) {
            x.set(what, told[what]);
        }
        for (int what = 0; what <= 6; what++) {
            due.is("count " + what, x.count(what), told[what]);
        }
        int[] none = {-1, 7, 8, Due.MIN, Due.MAX};
        for (int what : none) {
            Seen.refused(due, "count " + what, EdgesOfRulesTest::inPlay, y -> y.count(what),
                    Due.BAD);
        }
    }

    // "As told; nothing is played."
    private static void newObjectsAreApart() {
        RungPlay used = inPlay();
        for (int what = 0; what < 7; what++) {
            used.set(what, 1);
        }
        int[] first = {6, 4, 4, 6, 2, 0, 0};
        RungPlay x = new RungPlay();
        for (int what = 0; what < 7; what++) {
            due.is("new count " + what, x.count(what), first[what]);
        }
        for (int what = 0; what < 12; what++) {
            due.is("new score " + what, x.score(what), 0);
        }
        due.is("new, nobody has won", x.score(12), Due.NONE);
        due.is("new trace", x.trace(), 0);
        due.is("new, nothing to take back", x.back(400), 0);
        due.is("new, the first point", x.point(1), 1);
    }
}
