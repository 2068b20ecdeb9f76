import java.math.BigInteger;

/** Promises 4 to 7: chance, lasts, weight, heaviest. */
public final class OddsTest {
    private static final Due due = new Due();

    public static void main(String[] args) {
        knownGames();
        endsOfTheBoard();
        refusals();
        headStartsAreNotLookedAt();
        nothingChanges();
        for (int tenths = 1; tenths <= 9; tenths++) {
            for (int to = 1; to <= 5; to++) {
                for (int kind = 0; kind < 3; kind++) {
                    againstGamesPlayedOut(tenths, to, kind);
                }
            }
        }
        due.end();
    }

    private static void knownGames() {
        RungPlay x = new RungPlay();
        x.set(2, 1);
        is(x.chance(0, 0, 0, 0), x.chance(0, 0, 0, 1), 9, 13, "plain to 1");
        is(x.chance(1, 1, 0, 0), x.chance(1, 1, 0, 1), 9, 13, "plain 1 1");
        is(x.chance(1, 0, 1, 0), x.chance(1, 0, 1, 1), 38, 65, "plain 1 0, B serves");
        is(x.lasts(0, 0, 1, 0), x.lasts(0, 0, 1, 1), 50, 13, "lasts plain to 1");
        is(x.weight(1, 0, 0, 0), x.weight(1, 0, 0, 1), 4, 13, "weight plain 1 0");
        is(x.weight(1, 1, 0, 0), x.weight(1, 1, 0, 1), 6, 13, "weight plain 1 1");
        is(x.weight(0, 0, 0, 0), x.weight(0, 0, 0, 1), 6, 13, "weight plain 0 0");
        x.set(6, 1);
        is(x.chance(0, 0, 0, 0), x.chance(0, 0, 0, 1), 3, 5, "sudden to 1");
        is(x.chance(0, 0, 1, 0), x.chance(0, 0, 1, 1), 2, 5, "sudden to 1, B serves");
        is(x.lasts(0, 0, 0, 0), x.lasts(0, 0, 0, 1), 1, 1, "lasts sudden to 1");
        is(x.weight(0, 0, 0, 0), x.weight(0, 0, 0, 1), 1, 1, "weight sudden to 1");
        x.set(2, 3);
        x.set(6, 2);
        // 2-0 ends it (.36); from 1-1 (.48) two of the next three points (.648).
        is(x.chance(0, 0, 0, 0), x.chance(0, 0, 0, 1), 2097, 3125, "short to 3");
        is(x.lasts(1, 1, 0, 0), x.lasts(1, 1, 0, 1), 62, 25, "lasts short 1 1");
        is(x.chance(2, 0, 0, 0), x.chance(2, 0, 0, 1), 1, 1, "short 2 0");
        is(x.chance(0, 2, 0, 0), x.chance(0, 2, 0, 1), 0, 1, "short 0 2");
        is(x.lasts(2, 0, 0, 0), x.lasts(2, 0, 0, 1), 0, 1, "lasts short 2 0");
        due.is("heaviest short, i", x.heaviest(0, 0), 2);
        due.is("heaviest short, j", x.heaviest(0, 1), 2);
    }

    private static void is(long top, long bottom, long dueTop, long dueBottom, String what) {
        due.is(what + " upper", top, dueTop);
        due.is(what + " lower", bottom, dueBottom);
    }

    private static void endsOfTheBoard() {
        RungPlay x = new RungPlay();
        due.is("plain 4 4", x.chance(4, 4, 0, 0), 9);
        due.is("plain 4 4 weight", x.weight(4, 4, 0, 1), 13);
        due.is("plain 4 4 lasts", x.lasts(4, 4, 0, 0), 50);
        for (int kind = 1; kind < 3; kind++) {
            x.set(6, kind);
            due.is("4 4 chance " + kind, x.chance(4, 4, 0, 0), Due.NO);
            due.is("4 4 lasts " + kind, x.lasts(4, 4, 0, 0), Due.NO);
            due.is("4 4 weight " + kind, x.weight(4, 4, 0, 0), Due.NO);
            due.is("4 3 chance " + kind, x.chance(4, 3, 0, 0), 1);
            due.is("3 4 chance " + kind, x.chance(3, 4, 0, 0), 0);
            due.is("3 4 weight " + kind, x.weight(3, 4, 0, 0), Due.NO);
            due.is("3 4 lasts " + kind, x.lasts(3, 4, 0, 1), 1);
        }
        RungPlay even = new RungPlay();
        even.set(0, 5);
        due.is("of several the first, i", even.heaviest(0, 0), 2);
        due.is("of several the first, j", even.heaviest(0, 1), 2);
        even.set(2, 1);
        due.is("heaviest to 1, i", even.heaviest(1, 0), 0);
        due.is("heaviest to 1, j", even.heaviest(1, 1), 0);
    }

    private static void refusals() {
        RungPlay x = new RungPlay();
        int[] noScore = {-1, 5, Due.MIN, Due.MAX};
        for (int v : noScore) {
            refusedByAll(x, v, 0, 0, 0);
            refusedByAll(x, 0, v, 0, 0);
        }
        int[] neither = {-1, 2, Due.MIN, Due.MAX};
        for (int v : neither) {
            refusedByAll(x, 0, 0, v, 0);
            refusedByAll(x, 0, 0, 0, v);
            due.is("heaviest serves " + v, x.heaviest(v, 0), Due.BAD);
            due.is("heaviest what " + v, x.heaviest(0, v), Due.BAD);
        }
        due.is("weight of a won score", x.weight(4, 2, 0, 0), Due.NO);
        due.is("weight of a lost score", x.weight(0, 4, 1, 1), Due.NO);
    }

    private static void refusedByAll(RungPlay x, int i, int j, int serves, int part) {
        String args = " " + i + " " + j + " " + serves + " " + part;
        due.is("chance" + args, x.chance(i, j, serves, part), Due.NO);
        due.is("lasts" + args, x.lasts(i, j, serves, part), Due.NO);
        due.is("weight" + args, x.weight(i, j, serves, part), Due.NO);
    }

    private static void headStartsAreNotLookedAt() {
        RungPlay x = new RungPlay();
        long chance = x.chance(0, 0, 0, 0);
        long lasts = x.lasts(0, 0, 0, 0);
        x.set(5, 2);
        due.is("chance with a head start", x.chance(0, 0, 0, 0), chance);
        due.is("lasts with a head start", x.lasts(0, 0, 0, 0), lasts);
        due.is("heaviest with a head start", x.heaviest(0, 0), 2);
    }

    private static void nothingChanges() {
        RungPlay x = new RungPlay();
        x.point(0);
        x.chance(2, 1, 1, 0);
        x.heaviest(1, 0);
        x.match(0, 0, 1);
        due.is("points stay", x.score(0), 1);
        due.is("played stays", x.score(7), 1);
        due.is("a stays", x.count(0), 6);
    }

    /** Plays on from every score until next to nothing is left, and holds the parts against it. */
    private static void againstGamesPlayedOut(int tenths, int to, int kind) {
        for (int serves = 0; serves < 2; serves++) {
            RungPlay x = rules(tenths, to, kind, serves);
            long[] heaviest = {0, 0};
            BigInteger[] best = {BigInteger.valueOf(-1), BigInteger.ONE};
            for (int i = 0; i <= to; i++) {
                for (int j = 0; j <= to; j++) {
                    if (kind > 0 && i == to && j == to) {
                        continue;
                    }
                    String at = tenths + " to " + to + " kind " + kind + ": " + i + " " + j;
                    checkScore(rules(tenths, to, kind, serves), i, j, serves, tenths, at);
                    if (i < to && j < to && x.won(kind, i, j) == 0) {
                        BigInteger top = BigInteger.valueOf(x.weight(i, j, serves, 0));
                        BigInteger bottom = BigInteger.valueOf(x.weight(i, j, serves, 1));
                        if (top.multiply(best[1]).compareTo(best[0].multiply(bottom)) > 0) {
                            best[0] = top;
                            best[1] = bottom;
                            heaviest[0] = i;
                            heaviest[1] = j;
                        }
                    }
                }
            }
            String at = tenths + " to " + to + " kind " + kind + " serves " + serves;
            due.is("heaviest i " + at, x.heaviest(serves, 0), heaviest[0]);
            due.is("heaviest j " + at, x.heaviest(serves, 1), heaviest[1]);
        }
    }

    private static RungPlay rules(int tenths, int to, int kind, int serves) {
        RungPlay x = new RungPlay();
        x.set(serves, tenths);
        x.set(1 - serves, 10 - tenths == tenths ? 1 : 10 - tenths);
        x.set(2, to);
        x.set(6, kind);
        return x;
    }

    private static void checkScore(RungPlay x, int i, int j, int serves, int tenths, String at) {
        long top = x.chance(i, j, serves, 0);
        long bottom = x.chance(i, j, serves, 1);
        int to = x.count(2);
        int kind = x.count(6);
        double[] played = playedOut(to, kind, i, j, tenths / 10.0);
        leastForm("chance " + at, top, bottom);
        near("chance " + at, top, bottom, played[0]);
        long lastsTop = x.lasts(i, j, serves, 0);
        long lastsBottom = x.lasts(i, j, serves, 1);
        leastForm("lasts " + at, lastsTop, lastsBottom);
        near("lasts " + at, lastsTop, lastsBottom, played[1]);
        if (over(to, kind, i, j)) {
            due.is("weight of won " + at, x.weight(i, j, serves, 0), Due.NO);
            return;
        }
        long weightTop = x.weight(i, j, serves, 0);
        long weightBottom = x.weight(i, j, serves, 1);
        double more = playedOut(to, kind, i + 1, j, tenths / 10.0)[0];
        double less = playedOut(to, kind, i, j + 1, tenths / 10.0)[0];
        leastForm("weight " + at, weightTop, weightBottom);
        near("weight " + at, weightTop, weightBottom, more - less);
        if (i < to && j < to) {
            onePointOn(x, i, j, serves, tenths, at);
        }
    }

    /** The chance is p times that of one point more and q times that of one less, exactly. */
    private static void onePointOn(RungPlay x, int i, int j, int serves, int tenths, String at) {
        if (x.count(6) > 0 && i + 1 == x.count(2) && j + 1 == x.count(2)) {
            due.is("last point " + at, x.chance(i, j, serves, 0) * 10,
                    tenths * x.chance(i, j, serves, 1));
            return;
        }
        BigInteger[] here = {big(x.chance(i, j, serves, 0)), big(x.chance(i, j, serves, 1))};
        BigInteger[] more = {big(x.chance(i + 1, j, serves, 0)), big(x.chance(i + 1, j, serves, 1))};
        BigInteger[] less = {big(x.chance(i, j + 1, serves, 0)), big(x.chance(i, j + 1, serves, 1))};
        BigInteger left = here[0].multiply(more[1]).multiply(less[1]).multiply(big(10));
        BigInteger right = big(tenths).multiply(more[0]).multiply(less[1])
                .add(big(10 - tenths).multiply(less[0]).multiply(more[1])).multiply(here[1]);
        due.holds("exactly " + at, left.equals(right));
    }

    private static BigInteger big(long v) {
        return BigInteger.valueOf(v);
    }

    private static void leastForm(String what, long top, long bottom) {
        due.holds("least form: " + what,
                bottom > 0 && top >= 0 && big(top).gcd(big(bottom)).equals(BigInteger.ONE));
    }

    private static void near(String what, long top, long bottom, double wanted) {
        due.holds(what + " is " + top + "/" + bottom + ", played out " + wanted,
                Math.abs((double) top / bottom - wanted) < 1e-9);
    }

    private static boolean over(int to, int kind, int i, int j) {
        int more = Math.max(i, j);
        int less = Math.min(i, j);
        return more >= to && more >= less + 2
                || kind >= 1 && more >= to && more > less
                || kind == 2 && to >= 3 && more >= to - 1 && less == 0;
    }

    /** The chance that A wins, and how many points come in the mean. */
    private static double[] playedOut(int to, int kind, int i, int j, double p) {
        int side = 160;
        double[][] mass = new double[side + 2][side + 2];
        mass[i][j] = 1;
        double[] told = {0, 0};
        for (int sum = i + j; sum < side; sum++) {
            for (int own = 0; own <= sum; own++) {
                int other = sum - own;
                double here = mass[own][other];
                if (here == 0) {
                    continue;
                }
                if (over(to, kind, own, other)) {
                    told[0] += own > other ? here : 0;
                    continue;
                }
                told[1] += here;
                mass[own + 1][other] += here * p;
                mass[own][other + 1] += here * (1 - p);
            }
        }
        return told;
    }
}
