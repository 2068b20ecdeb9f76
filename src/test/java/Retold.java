import java.math.BigInteger;
import java.util.ArrayList;
import java.util.List;

/**
 * The document told again, straight and without regard for cost: fractions of whole numbers,
 * recursions without a memory, and a match that is played from its first point for each question.
 */
final class Retold {
    private static final long MILLION = 1000000L;
    private static final int[] LEAST = {1, 1, 1, 1, 1, 0, 0};
    private static final int[] MOST = {9, 9, 5, 6, 3, 0, 2};

    private final int[] rules = {6, 4, 4, 6, 2, 0, 0};
    private final List<Integer> points = new ArrayList<>();
    private long trace = 0;

    int set(int what, int v) {
        if (what < 0 || what > 6) {
            return Due.BAD;
        }
        int most = what == 5 ? rules[2] == 1 ? 0 : rules[2] - 2 : MOST[what];
        if (v < LEAST[what] || v > most) {
            return Due.BAD;
        }
        if (what >= 2 && !points.isEmpty()) {
            return Due.STATE;
        }
        int was = rules[what];
        rules[what] = v;
        if (what == 2) {
            rules[5] = 0;
        }
        return was;
    }

    int won(int kind, int i, int j) {
        if (kind < 0 || kind > 2 || i < 0 || i > 20 || j < 0 || j > 20) {
            return Due.BAD;
        }
        int[] bodies = {1, 10, 100};
        for (int k = kind; k >= 0; k--) {
            trace += bodies[k];
        }
        return winner(kind, i, j);
    }

    private int winner(int kind, int i, int j) {
        int to = rules[2];
        if (kind == 0) {
            return i >= to && i - j >= 2 ? 1 : j >= to && j - i >= 2 ? 2 : 0;
        }
        int up = winner(kind - 1, i, j);
        if (up != 0) {
            return up;
        }
        if (kind == 1) {
            return i >= to && i > j ? 1 : j >= to && j > i ? 2 : 0;
        }
        if (to < 3) {
            return 0;
        }
        return i >= to - 1 && j == 0 ? 1 : j >= to - 1 && i == 0 ? 2 : 0;
    }

    // ---- games

    /** Always in least form, the lower part above 0. */
    private static final class Fraction {
        final BigInteger upper;
        final BigInteger lower;

        Fraction(BigInteger upper, BigInteger lower) {
            BigInteger shared = upper.gcd(lower);
            this.upper = upper.divide(shared);
            this.lower = lower.divide(shared);
        }

        static Fraction of(long upper, long lower) {
            return new Fraction(BigInteger.valueOf(upper), BigInteger.valueOf(lower));
        }

        Fraction plus(Fraction other) {
            return new Fraction(upper.multiply(other.lower).add(other.upper.multiply(lower)),
                    lower.multiply(other.lower));
        }

        Fraction less(Fraction other) {
            return plus(new Fraction(other.upper.negate(), other.lower));
        }

        Fraction times(Fraction other) {
            return new Fraction(upper.multiply(other.upper), lower.multiply(other.lower));
        }

        boolean isOver(Fraction other) {
            return less(other).upper.signum() > 0;
        }

        long part(int part) {
            return (part == 0 ? upper : lower).longValueExact();
        }
    }

    private boolean isAsked(int i, int j, int serves, int part) {
        int to = rules[2];
        boolean isScore = i >= 0 && j >= 0 && i <= to && j <= to;
        boolean isBothAll = isScore && i == to && j == to;
        return isScore && !(isBothAll && rules[6] != 0)
                && (serves == 0 || serves == 1) && (part == 0 || part == 1);
    }

    private Fraction tenths(int serves, boolean isOfA) {
        return Fraction.of(isOfA ? rules[serves] : 10 - rules[serves], 10);
    }

    /** By PLAIN each score from P - 1 all on is as the one with a point less on both sides. */
    private boolean isDeuce(int i, int j) {
        return rules[6] == 0 && i == j && i >= rules[2] - 1;
    }

    private Fraction chanceFrom(int i, int j, int serves) {
        int winner = winner(rules[6], i, j);
        if (winner != 0) {
            return Fraction.of(winner == 1 ? 1 : 0, 1);
        }
        if (isDeuce(i, j)) {
            long a = rules[serves];
            long b = 10 - a;
            return Fraction.of(a * a, a * a + b * b);
        }
        return tenths(serves, true).times(chanceFrom(i + 1, j, serves))
                .plus(tenths(serves, false).times(chanceFrom(i, j + 1, serves)));
    }

    private Fraction lastsFrom(int i, int j, int serves) {
        if (winner(rules[6], i, j) != 0) {
            return Fraction.of(0, 1);
        }
        if (isDeuce(i, j)) {
            // L = 2 + 2 p q L: after two points it is over, or as it was.
            long a = rules[serves];
            return Fraction.of(200, 100 - 2 * a * (10 - a));
        }
        return Fraction.of(1, 1).plus(tenths(serves, true).times(lastsFrom(i + 1, j, serves)))
                .plus(tenths(serves, false).times(lastsFrom(i, j + 1, serves)));
    }

    private Fraction weightOf(int i, int j, int serves) {
        return chanceFrom(i + 1, j, serves).less(chanceFrom(i, j + 1, serves));
    }

    long chance(int i, int j, int serves, int part) {
        return isAsked(i, j, serves, part) ? chanceFrom(i, j, serves).part(part) : Due.NO;
    }

    long lasts(int i, int j, int serves, int part) {
        return isAsked(i, j, serves, part) ? lastsFrom(i, j, serves).part(part) : Due.NO;
    }

    long weight(int i, int j, int serves, int part) {
        if (!isAsked(i, j, serves, part) || winner(rules[6], i, j) != 0) {
            return Due.NO;
        }
        return weightOf(i, j, serves).part(part);
    }

    int heaviest(int serves, int what) {
        if (serves < 0 || serves > 1 || what < 0 || what > 1) {
            return Due.BAD;
        }
        Fraction best = null;
        int answer = Due.BAD;
        for (int i = 0; i < rules[2]; i++) {
            for (int j = 0; j < rules[2]; j++) {
                if (winner(rules[6], i, j) != 0) {
                    continue;
                }
                Fraction here = weightOf(i, j, serves);
                if (best == null || here.isOver(best)) {
                    best = here;
                    answer = what == 0 ? i : j;
                }
            }
        }
        return answer;
    }

    // ---- sets, the match

    private long gameOf(int serves) {
        Fraction chance = chanceFrom(serves == 0 ? rules[5] : 0, 0, serves);
        return chance.upper.multiply(BigInteger.valueOf(MILLION)).divide(chance.lower).longValue();
    }

    private long setFrom(int x, int y, int serves, long[] game) {
        int to = rules[3];
        if (x >= to && x - y >= 2) {
            return MILLION;
        }
        if (y >= to && y - x >= 2) {
            return 0;
        }
        if (x == to && y == to) {
            return (game[0] + game[1]) / 2;
        }
        long c = game[serves];
        return (c * setFrom(x + 1, y, 1 - serves, game)
                + (MILLION - c) * setFrom(x, y + 1, 1 - serves, game)) / MILLION;
    }

    private long matchFrom(int u, int v, int serves, long[] set) {
        if (u == rules[4]) {
            return MILLION;
        }
        if (v == rules[4]) {
            return 0;
        }
        long c = set[serves];
        return (c * matchFrom(u + 1, v, 1 - serves, set)
                + (MILLION - c) * matchFrom(u, v + 1, 1 - serves, set)) / MILLION;
    }

    int game(int serves) {
        return serves < 0 || serves > 1 ? Due.BAD : (int) gameOf(serves);
    }

    int round(int x, int y, int serves) {
        if (x < 0 || y < 0 || x > rules[3] || y > rules[3] || serves < 0 || serves > 1) {
            return Due.BAD;
        }
        return (int) setFrom(x, y, serves, new long[] {gameOf(0), gameOf(1)});
    }

    int match(int u, int v, int serves) {
        int to = rules[4];
        if (u < 0 || v < 0 || u > to || v > to || serves < 0 || serves > 1) {
            return Due.BAD;
        }
        if (u == to && v == to) {
            return Due.BAD;
        }
        long[] game = {gameOf(0), gameOf(1)};
        long[] set = {setFrom(0, 0, 0, game), setFrom(0, 0, 1, game)};
        return (int) matchFrom(u, v, serves, set);
    }

    // ---- play

    /** Cells 0 to 12 are told as score tells them; 13 is who served first in the set. */
    private int[] board() {
        int[] board = new int[14];
        board[0] = rules[5];
        board[12] = Due.NONE;
        for (int who : points) {
            board[7]++;
            board[8 + 2 * board[6] + who]++;
            board[who]++;
            if (winner(rules[6], board[0], board[1]) != 0) {
                endGame(board, who);
            }
        }
        return board;
    }

    private void endGame(int[] board, int who) {
        boolean isTie = board[2] == rules[3] && board[3] == rules[3];
        board[2 + who]++;
        board[6] = 1 - board[6];
        boolean isSet = board[2 + who] >= rules[3] && board[2 + who] - board[3 - who] >= 2;
        if (isTie || isSet) {
            board[4 + who]++;
            board[2] = 0;
            board[3] = 0;
            board[13] = 1 - board[13];
            board[6] = board[13];
            board[12] = board[4 + who] == rules[4] ? who : Due.NONE;
        }
        board[0] = board[6] == 0 ? rules[5] : 0;
        board[1] = 0;
    }

    int point(int who) {
        if (who < 0 || who > 1) {
            return Due.BAD;
        }
        if (board()[12] != Due.NONE) {
            return Due.STATE;
        }
        if (points.size() == 400) {
            return Due.FULL;
        }
        points.add(who);
        return points.size();
    }

    int back(int n) {
        if (n < 1 || n > 400) {
            return Due.BAD;
        }
        int taken = 0;
        while (taken < n && !points.isEmpty()) {
            points.remove(points.size() - 1);
            taken++;
        }
        return taken;
    }

    int score(int what) {
        return what < 0 || what > 12 ? Due.BAD : board()[what];
    }

    int likeliest(int w, int l) {
        if (w < 0 || l < 0 || w > 18 || l > 18 || w + l > 18) {
            return Due.BAD;
        }
        BigInteger best = BigInteger.ZERO;
        int answer = 0;
        for (int strength = 1; strength <= 9; strength++) {
            BigInteger here = BigInteger.valueOf(strength).pow(w)
                    .multiply(BigInteger.valueOf(10 - strength).pow(l));
            if (here.compareTo(best) > 0) {
                best = here;
                answer = strength;
            }
        }
        return answer;
    }

    int count(int what) {
        return what < 0 || what > 6 ? Due.BAD : rules[what];
    }

    long trace() {
        return trace;
    }
}
