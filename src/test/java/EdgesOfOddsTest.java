import java.math.BigInteger;
import java.util.function.Supplier;

/** One test for each sentence on promises 4 to 7 (and "Terms") that names an edge. */
public final class EdgesOfOddsTest {
    private static final Due due = new Due();

    public static void main(String[] args) {
        pointsAreUpToP();
        bothPByPlainAlone();
        servesAndPartsAreTwo();
        refusalsChangeNothing();
        leastFormOfNothingAndOfAll();
        leastFormOfTheGreatest();
        headStartsAreNotLookedAt();
        servesTellsWhoseStrength();
        theKindAtHandCounts();
        wonScoresLastNothing();
        lastsToTheEnd();
        wonScoresHaveNoWeight();
        weightReachesOnePointOver();
        heaviestIsBelowP();
        heaviestIsTheFirstOfSeveral();
        heaviestIsNotWon();
        heaviestAsksTwoAndTwo();
        oddsAreToldInPlayToo();
        fewerPointsToldAnewLeaveNothingBehind();
        due.end();
    }

    private static RungPlay rules(int tenths, int to, int kind) {
        RungPlay x = new RungPlay();
        x.set(0, tenths);
        x.set(1, 10 - tenths);
        x.set(2, to);
        x.set(6, kind);
        return x;
    }

    private static void chanceIs(String what, RungPlay x, int i, int j, long upper, long lower) {
        due.is("chance, upper, " + what, x.chance(i, j, 0, 0), upper);
        due.is("chance, lower, " + what, x.chance(i, j, 0, 1), lower);
    }

    private static void lastsIs(String what, RungPlay x, int i, int j, long upper, long lower) {
        due.is("lasts, upper, " + what, x.lasts(i, j, 0, 0), upper);
        due.is("lasts, lower, " + what, x.lasts(i, j, 0, 1), lower);
    }

    private static void weightIs(String what, RungPlay x, int i, int j, long upper, long lower) {
        due.is("weight, upper, " + what, x.weight(i, j, 0, 0), upper);
        due.is("weight, lower, " + what, x.weight(i, j, 0, 1), lower);
    }

    private static void heaviestIs(String what, RungPlay x, int serves, int i, int j) {
        due.is("heaviest, i, " + what, x.heaviest(serves, 0), i);
        due.is("heaviest, j, " + what, x.heaviest(serves, 1), j);
    }

    private static void refusedByAll(String what, Supplier<RungPlay> made, int i, int j,
            int serves, int part) {
        String args = " " + i + " " + j + " " + serves + " " + part + ", " + what;
        Seen.refused(due, "chance" + args, made, x -> x.chance(i, j, serves, part), Due.NO);
        Seen.refused(due, "lasts" + args, made, x -> x.lasts(i, j, serves, part), Due.NO);
        Seen.refused(due, "weight" + args, made, x -> x.weight(i, j, serves, part), Due.NO);
    }

    // "from points i, j (of A's, of B's, 0 .. P each"
    private static void pointsAreUpToP() {
        for (int to = 1; to <= 5; to++) {
            for (int kind = 0; kind <= 2; kind++) {
                int p = to;
                int k = kind;
                Supplier<RungPlay> made = () -> rules(6, p, k);
                int[] no = {-1, to + 1, to + 2, Due.MIN, Due.MAX};
                for (int v : no) {
                    refusedByAll("to " + to + " by " + kind, made, v, 0, 0, 0);
                    refusedByAll("to " + to + " by " + kind, made, 0, v, 1, 1);
                    refusedByAll("to " + to + " by " + kind, made, v, v, 0, 1);
                }
                RungPlay x = made.get();
                due.holds("0 0 to " + to, x.chance(0, 0, 0, 0) > 0 && x.lasts(0, 0, 0, 0) > 0);
                due.holds("P 0 to " + to, x.chance(to, 0, 0, 0) > 0);
                due.holds("0 P to " + to, x.chance(0, to, 0, 1) > 0);
                due.holds("P P - 1 to " + to, x.chance(to, to - 1, 0, 0) > 0);
                due.holds("P - 1 P to " + to, x.lasts(to - 1, to, 0, 1) > 0);
            }
        }
    }

    // "not both P by SUDDEN, SHORT)"
    private static void bothPByPlainAlone() {
        for (int to = 1; to <= 5; to++) {
            int p = to;
            for (int kind = 1; kind <= 2; kind++) {
                int k = kind;
                refusedByAll("P all", () -> rules(6, p, k), to, to, 0, 0);
                refusedByAll("P all", () -> rules(6, p, k), to, to, 1, 1);
            }
            RungPlay x = rules(6, to, 0);
            chanceIs("P all by PLAIN", x, to, to, 9, 13);
            lastsIs("P all by PLAIN", x, to, to, 50, 13);
            weightIs("P all by PLAIN", x, to, to, 6, 13);
        }
    }

    // "serves: 0 A, 1 B: upper (part = 0), lower part (1). NO: BAD."
    private static void servesAndPartsAreTwo() {
        int[] neither = {-1, 2, 3, Due.MIN, Due.MAX};
        for (int v : neither) {
            refusedByAll("serves", RungPlay::new, 1, 1, v, 0);
            refusedByAll("part", RungPlay::new, 1, 1, 0, v);
            refusedByAll("both", RungPlay::new, 4, 0, v, v);
        }
    }

    private static void refusalsChangeNothing() {
        Supplier<RungPlay> made = () -> {
            RungPlay x = rules(7, 5, 2);
            x.set(5, 3);
            x.won(2, 0, 0);
            x.point(0);
            return x;
        };
        refusedByAll("in play", made, 5, 5, 0, 0);
        refusedByAll("in play", made, 6, 0, 0, 0);
        refusedByAll("in play", made, 0, -1, 1, 1);
        Seen.refused(due, "weight of 4 0, in play", made, x -> x.weight(4, 0, 0, 0), Due.NO);
        Seen.refused(due, "heaviest, in play", made, x -> x.heaviest(2, 0), Due.BAD);
        Seen.refused(due, "chance, in play", made, x -> x.chance(4, 0, 0, 0), 1);
        Seen.refused(due, "heaviest, not refused", made, x -> x.heaviest(0, 0), 4);
    }

    // "exactly, in least form": none is 0 over 1, all is 1 over 1
    private static void leastFormOfNothingAndOfAll() {
        for (int to = 1; to <= 5; to++) {
            for (int kind = 0; kind <= 2; kind++) {
                RungPlay x = rules(6, to, kind);
                int most = to == 1 && kind == 0 ? -1 : to;
                if (most > 0) {
                    chanceIs("won", x, most, 0, 1, 1);
                    chanceIs("lost", x, 0, most, 0, 1);
                }
            }
        }
        RungPlay even = rules(5, 4, 0);
        chanceIs("even", even, 2, 2, 1, 2);
        chanceIs("even, P all", even, 4, 4, 1, 2);
        lastsIs("even, P all", even, 4, 4, 4, 1);
        weightIs("even, P all", even, 4, 4, 1, 2);
        weightIs("the only point", rules(3, 1, 1), 0, 0, 1, 1);
        chanceIs("nothing shared", rules(9, 4, 0), 4, 4, 81, 82);
        chanceIs("2 shared", rules(8, 4, 0), 4, 4, 16, 17);
        lastsIs("2 shared", rules(9, 4, 0), 4, 4, 100, 41);
    }

    /** The greatest parts there are: held against the straight sum, as fractions of wholes. */
    private static void leastFormOfTheGreatest() {
        for (int tenths = 1; tenths <= 9; tenths++) {
            for (int kind = 0; kind <= 2; kind++) {
                RungPlay x = rules(tenths, 5, kind);
                Retold told = new Retold();
                told.set(0, tenths);
                told.set(2, 5);
                told.set(6, kind);
                for (int part = 0; part <= 1; part++) {
                    String at = " of " + tenths + " by " + kind + " part " + part;
                    due.is("chance" + at, x.chance(0, 0, 0, part), told.chance(0, 0, 0, part));
                    due.is("lasts" + at, x.lasts(0, 0, 0, part), told.lasts(0, 0, 0, part));
                    due.is("weight" + at, x.weight(0, 0, 0, part), told.weight(0, 0, 0, part));
                }
                BigInteger lower = BigInteger.valueOf(x.chance(0, 0, 0, 1));
                BigInteger upper = BigInteger.valueOf(x.chance(0, 0, 0, 0));
                due.is("shared", upper.gcd(lower).longValue(), 1);
            }
        }
    }

    // "(HEAD STARTS are not looked at by it: they are told as points.)"
    private static void headStartsAreNotLookedAt() {
        for (int kind = 0; kind <= 2; kind++) {
            RungPlay bare = rules(6, 5, kind);
            RungPlay ahead = rules(6, 5, kind);
            ahead.set(5, 3);
            for (int serves = 0; serves <= 1; serves++) {
                for (int part = 0; part <= 1; part++) {
                    due.is("chance", ahead.chance(0, 0, serves, part),
                            bare.chance(0, 0, serves, part));
                    due.is("lasts", ahead.lasts(0, 0, serves, part),
                            bare.lasts(0, 0, serves, part));
                    due.is("weight", ahead.weight(0, 0, serves, part),
                            bare.weight(0, 0, serves, part));
                    due.is("heaviest", ahead.heaviest(serves, part),
                            bare.heaviest(serves, part));
                }
            }
        }
    }

    // "by who serves": both strengths are A's
    private static void servesTellsWhoseStrength() {
        RungPlay x = rules(6, 1, 1);
        x.set(0, 9);
        x.set(1, 8);
        due.is("A serves", x.chance(0, 0, 0, 0), 9);
        due.is("B serves", x.chance(0, 0, 1, 0), 4);
        due.is("B serves, lower", x.chance(0, 0, 1, 1), 5);
        x.set(6, 0);
        due.is("lasts, A serves", x.lasts(0, 0, 0, 1), 41);
        due.is("lasts, B serves", x.lasts(0, 0, 1, 1), 17);
        due.is("weight, A serves", x.weight(0, 0, 0, 1), 82);
        due.is("weight, B serves", x.weight(0, 0, 1, 1), 17);
        heaviestIs("A serves well", rules(6, 4, 0), 0, 2, 3);
        heaviestIs("B serves well", rules(6, 4, 0), 1, 3, 2);
    }

    // "by the KIND at hand"
    private static void theKindAtHandCounts() {
        RungPlay x = rules(6, 3, 0);
        chanceIs("2 2 by PLAIN", x, 2, 2, 9, 13);
        chanceIs("3 2 by PLAIN", x, 3, 2, 57, 65);
        lastsIs("2 2 by PLAIN", x, 2, 2, 50, 13);
        x.set(6, 1);
        chanceIs("2 2 by SUDDEN", x, 2, 2, 3, 5);
        chanceIs("3 2 by SUDDEN", x, 3, 2, 1, 1);
        chanceIs("2 0 by SUDDEN", x, 2, 0, 117, 125);
        lastsIs("2 2 by SUDDEN", x, 2, 2, 1, 1);
        x.set(6, 2);
        chanceIs("2 0 by SHORT", x, 2, 0, 1, 1);
        chanceIs("2 2 by SHORT", x, 2, 2, 3, 5);
        x.set(2, 2);
        chanceIs("1 0 by SHORT to 2", x, 1, 0, 21, 25);
    }

    // "(0 of a score that is WON)"
    private static void wonScoresLastNothing() {
        for (int to = 2; to <= 5; to++) {
            for (int kind = 0; kind <= 2; kind++) {
                RungPlay x = rules(6, to, kind);
                lastsIs("P 0", x, to, 0, 0, 1);
                lastsIs("0 P", x, 0, to, 0, 1);
                lastsIs("P P - 2", x, to, to - 2, 0, 1);
                boolean isShort = kind == 2 && to >= 3;
                due.is("P - 1 0 is won", x.lasts(to - 1, 0, 0, 0) == 0 ? 1 : 0, isShort ? 1 : 0);
                boolean isSudden = kind >= 1;
                due.is("P P - 1 is won", x.lasts(to, to - 1, 0, 0) == 0 ? 1 : 0,
                        isSudden ? 1 : 0);
            }
        }
    }

    private static void lastsToTheEnd() {
        RungPlay x = rules(6, 4, 1);
        lastsIs("3 3 by SUDDEN", x, 3, 3, 1, 1);
        lastsIs("3 2 by SUDDEN", x, 3, 2, 7, 5);
        x.set(6, 0);
        // One point more, and by .4 of them P - 1 all, which lasts 50 / 13.
        lastsIs("3 2 by PLAIN", x, 3, 2, 33, 13);
        lastsIs("4 3 by PLAIN", x, 4, 3, 33, 13);
        lastsIs("3 4 by PLAIN", x, 3, 4, 43, 13);
    }

    // "WEIGHT of a score that is not WON"; "NO: BAD: a score that is WON, too."
    private static void wonScoresHaveNoWeight() {
        for (int to = 1; to <= 5; to++) {
            for (int kind = 0; kind <= 2; kind++) {
                RungPlay x = rules(6, to, kind);
                int asked = 0;
                for (int i = 0; i <= to; i++) {
                    for (int j = 0; j <= to && asked < 480; j++) {
                        boolean isNone = x.won(kind, i, j) != 0
                                || kind > 0 && i == to && j == to;
                        long weight = x.weight(i, j, 1, 0);
                        asked += 2;
                        due.is("weight at " + i + " " + j + " to " + to + " by " + kind,
                                weight == Due.NO ? 1 : 0, isNone ? 1 : 0);
                    }
                }
            }
        }
    }

    // "CHANCE with one point more of A's, less that with one more of B's", over P, too
    private static void weightReachesOnePointOver() {
        RungPlay x = rules(6, 4, 0);
        weightIs("4 3", x, 4, 3, 4, 13);
        weightIs("3 4", x, 3, 4, 9, 13);
        weightIs("3 3", x, 3, 3, 6, 13);
        weightIs("4 4", x, 4, 4, 6, 13);
        // B needs two points and then P all: .16 times 4 / 13.
        weightIs("3 0", x, 3, 0, 16, 325);
        x.set(6, 1);
        weightIs("3 3 by SUDDEN", x, 3, 3, 1, 1);
        weightIs("3 2 by SUDDEN", x, 3, 2, 2, 5);
        x.set(6, 2);
        // From 2 1 A needs two of four: 1 - .8208.
        weightIs("2 0 by SHORT", x, 2, 0, 112, 625);
    }

    // "the score (points 0 .. P - 1 each) with the greatest WEIGHT": 0 1 would weigh more here
    private static void heaviestIsBelowP() {
        for (int tenths = 1; tenths <= 9; tenths++) {
            for (int kind = 0; kind <= 2; kind++) {
                heaviestIs("to 1", rules(tenths, 1, kind), 0, 0, 0);
            }
        }
        RungPlay x = rules(6, 1, 0);
        weightIs("0 1 to 1", x, 0, 1, 9, 13);
        weightIs("0 0 to 1", x, 0, 0, 6, 13);
        heaviestIs("to 5", rules(9, 5, 1), 0, 4, 4);
        heaviestIs("to 5", rules(1, 5, 1), 0, 4, 4);
    }

    // "of several the first by i, then j"
    private static void heaviestIsTheFirstOfSeveral() {
        heaviestIs("even to 2", rules(5, 2, 0), 0, 0, 0);
        heaviestIs("even to 3", rules(5, 3, 0), 0, 1, 1);
        heaviestIs("even to 4", rules(5, 4, 0), 1, 2, 2);
        heaviestIs("even to 5", rules(5, 5, 0), 1, 3, 3);
        RungPlay x = rules(5, 4, 0);
        weightIs("even, 2 2", x, 2, 2, 1, 2);
        weightIs("even, 2 3", x, 2, 3, 1, 2);
        weightIs("even, 3 2", x, 3, 2, 1, 2);
        weightIs("even, 3 3", x, 3, 3, 1, 2);
    }

    private static void heaviestIsNotWon() {
        for (int tenths = 1; tenths <= 9; tenths++) {
            for (int to = 1; to <= 5; to++) {
                RungPlay x = rules(tenths, to, 2);
                for (int serves = 0; serves <= 1; serves++) {
                    int i = x.heaviest(serves, 0);
                    int j = x.heaviest(serves, 1);
                    due.is("heaviest is not won", x.won(2, i, j), 0);
                    due.holds("it has a weight", x.weight(i, j, serves, 0) > 0);
                }
            }
        }
    }

    // "i (what = 0), j (1). BAD."
    private static void heaviestAsksTwoAndTwo() {
        int[] neither = {-1, 2, 3, Due.MIN, Due.MAX};
        for (int v : neither) {
            Seen.refused(due, "heaviest serves " + v, RungPlay::new, x -> x.heaviest(v, 0),
                    Due.BAD);
            Seen.refused(due, "heaviest what " + v, RungPlay::new, x -> x.heaviest(0, v),
                    Due.BAD);
            Seen.refused(due, "heaviest both " + v, RungPlay::new, x -> x.heaviest(v, v),
                    Due.BAD);
        }
    }

    private static void oddsAreToldInPlayToo() {
        RungPlay x = rules(6, 1, 1);
        x.set(3, 1);
        x.set(4, 1);
        x.point(0);
        x.point(0);
        due.is("over", x.point(0), Due.STATE);
        chanceIs("when it is over", x, 0, 0, 3, 5);
        x.set(0, 9);
        chanceIs("a told anew when it is over", x, 0, 0, 9, 10);
        lastsIs("when it is over", x, 0, 0, 1, 1);
        weightIs("when it is over", x, 0, 0, 1, 1);
        heaviestIs("when it is over", x, 0, 0, 0);
    }

    // "P told anew": what was reckoned for more points, or by another KIND, is gone
    private static void fewerPointsToldAnewLeaveNothingBehind() {
        RungPlay used = new RungPlay();
        for (int kind = 0; kind <= 2; kind++) {
            for (int to = 5; to >= 1; to--) {
                used.set(2, 5);
                used.set(6, 0);
                used.lasts(0, 0, 0, 0);
                used.set(2, to);
                used.set(6, kind);
                RungPlay fresh = rules(6, to, kind);
                for (int k = 0; k <= 1; k++) {
                    sameAt(used, fresh, 0, 0, k);
                    sameAt(used, fresh, to - 1, to, k);
                    sameAt(used, fresh, to, to - 1, k);
                    due.is("heaviest", used.heaviest(1, k), fresh.heaviest(1, k));
                }
            }
        }
    }

    private static void sameAt(RungPlay used, RungPlay fresh, int i, int j, int part) {
        String at = " " + i + " " + j + " part " + part;
        due.is("chance" + at, used.chance(i, j, 1, part), fresh.chance(i, j, 1, part));
        due.is("lasts" + at, used.lasts(i, j, 1, part), fresh.lasts(i, j, 1, part));
        due.is("weight" + at, used.weight(i, j, 1, part), fresh.weight(i, j, 1, part));
    }
}
