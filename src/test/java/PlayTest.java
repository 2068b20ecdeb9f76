import java.math.BigInteger;

/** Promises 11 to 14: point, back, score, likeliest. */
public final class PlayTest {
    private static final Due due = new Due();
    private static long seed = 12345;

    public static void main(String[] args) {
        setsGoToWhoDidNotServeFirst();
        headStartStandsInPlay();
        shortAndSuddenEndTheGame();
        gamesPastTwentyPoints();
        refusals();
        fullAtFourHundred();
        theMatchOver();
        likeliest();
        for (int run = 0; run < 600; run++) {
            againstAPlainScorer(run);
        }
        due.end();
    }

    private static RungPlay quick(int games, int sets) {
        RungPlay x = new RungPlay();
        x.set(2, 1);
        x.set(6, 1);
        x.set(3, games);
        x.set(4, sets);
        return x;
    }

    private static void tell(RungPlay x, int... winners) {
        int played = x.score(7);
        for (int who : winners) {
            played++;
            due.is("point " + played, x.point(who), played);
        }
    }

    private static void scores(String what, RungPlay x, int... wanted) {
        for (int k = 0; k < wanted.length; k++) {
            due.is(what + ": score " + k, x.score(k), wanted[k]);
        }
    }

    private static void setsGoToWhoDidNotServeFirst() {
        RungPlay x = quick(2, 3);
        tell(x, 0, 0);
        scores("2-0", x, 0, 0, 0, 0, 1, 0, 1, 2, 1, 0, 1, 0, Due.NONE);
        tell(x, 1, 0, 1);
        scores("1-2", x, 0, 0, 1, 2, 1, 0, 0, 5, 2, 0, 1, 2, Due.NONE);
        tell(x, 0);
        scores("2-2", x, 0, 0, 2, 2, 1, 0, 1, 6, 3, 0, 1, 2, Due.NONE);
        tell(x, 1);
        scores("the tie", x, 0, 0, 0, 0, 1, 1, 0, 7, 3, 0, 1, 3, Due.NONE);
        due.is("back over the set", x.back(1), 1);
        scores("2-2 again", x, 0, 0, 2, 2, 1, 0, 1, 6, 3, 0, 1, 2, Due.NONE);
        tell(x, 0);
        scores("the tie to A", x, 0, 0, 0, 0, 2, 0, 0, 7, 3, 0, 2, 2, Due.NONE);
        tell(x, 0, 1, 0, 0);
        scores("the match", x, 0, 0, 0, 0, 3, 0, 1, 11, 5, 0, 3, 3, 0);
    }

    private static void headStartStandsInPlay() {
        RungPlay x = new RungPlay();
        x.set(5, 2);
        scores("before", x, 2, 0);
        tell(x, 1, 1, 1);
        scores("2-3", x, 2, 3, 0, 0, 0, 0, 0, 3, 0, 3, 0, 0);
        tell(x, 1);
        scores("B's game, B serves", x, 0, 0, 0, 1, 0, 0, 1);
        tell(x, 0, 0, 0, 0);
        scores("A's game, A serves", x, 2, 0, 1, 1, 0, 0, 0);
        tell(x, 0);
        scores("3-0", x, 3, 0, 1, 1);
        tell(x, 0);
        scores("4-0", x, 0, 0, 2, 1, 0, 0, 1, 10, 2, 4, 4, 0);
        due.is("back 2", x.back(2), 2);
        scores("2-0 again", x, 2, 0, 1, 1, 0, 0, 0, 8, 0, 4, 4, 0);
        x.back(400);
        scores("all taken back", x, 2, 0, 0, 0, 0, 0, 0, 0, 0, 0, 0, 0, Due.NONE);
        x.set(5, 0);
        scores("without one", x, 0, 0);
    }

    private static void shortAndSuddenEndTheGame() {
        RungPlay x = new RungPlay();
        x.set(6, 2);
        tell(x, 0, 0, 0);
        scores("3-0 short", x, 0, 0, 1, 0, 0, 0, 1);
        tell(x, 0, 1, 1, 1);
        scores("1-3 goes on", x, 1, 3, 1, 0, 0, 0, 1);
        tell(x, 0, 0, 1);
        scores("3-4 ends", x, 0, 0, 1, 1, 0, 0, 0);
        RungPlay plain = new RungPlay();
        tell(plain, 0, 0, 0, 1, 1, 1, 1);
        scores("3-4 goes on", plain, 3, 4, 0, 0);
        tell(plain, 1);
        scores("3-5 ends", plain, 0, 0, 0, 1);
        RungPlay ahead = new RungPlay();
        ahead.set(2, 3);
        ahead.set(5, 1);
        ahead.set(6, 2);
        tell(ahead, 0);
        scores("1 ahead and 1 more is short of 3", ahead, 0, 0, 1, 0);
    }

    private static void gamesPastTwentyPoints() {
        RungPlay x = new RungPlay();
        for (int n = 0; n < 30; n++) {
            tell(x, 0, 1);
        }
        scores("30 all", x, 30, 30, 0, 0, 0, 0, 0, 60, 30, 30, 0, 0);
        tell(x, 0, 0);
        scores("32-30", x, 0, 0, 1, 0, 0, 0, 1, 62, 32, 30, 0, 0);
    }

    private static void refusals() {
        RungPlay x = new RungPlay();
        int[] nobody = {-1, 2, Due.MIN, Due.MAX};
        for (int v : nobody) {
            due.is("point " + v, x.point(v), Due.BAD);
        }
        int[] noNumber = {-1, 0, 401, Due.MIN, Due.MAX};
        for (int v : noNumber) {
            due.is("back " + v, x.back(v), Due.BAD);
        }
        int[] noScore = {-1, 13, Due.MIN, Due.MAX};
        for (int v : noScore) {
            due.is("score " + v, x.score(v), Due.BAD);
        }
        tell(x, 0, 1);
        x.point(2);
        x.back(0);
        scores("unchanged", x, 1, 1, 0, 0, 0, 0, 0, 2);
        due.is("back more than were", x.back(3), 2);
        due.is("back none", x.back(400), 0);
    }

    private static void fullAtFourHundred() {
        RungPlay x = new RungPlay();
        for (int n = 1; n <= 400; n++) {
            due.is("point " + n, x.point(n % 2), n);
        }
        due.is("the 401st", x.point(0), Due.FULL);
        due.is("BAD ahead of FULL", x.point(2), Due.BAD);
        scores("full", x, 200, 200, 0, 0, 0, 0, 0, 400, 200, 200);
        due.is("back 1", x.back(1), 1);
        due.is("the 400th again", x.point(0), 400);
        due.is("FULL again", x.point(0), Due.FULL);
        due.is("back 400", x.back(400), 400);
        scores("empty", x, 0, 0, 0, 0, 0, 0, 0, 0, 0, 0);
    }

    private static void theMatchOver() {
        RungPlay x = quick(1, 1);
        tell(x, 1, 1);
        due.is("B won", x.score(12), 1);
        due.is("STATE", x.point(0), Due.STATE);
        due.is("BAD ahead of STATE", x.point(-1), Due.BAD);
        due.is("sets of B", x.score(5), 1);
        due.is("rules stay in play", x.set(4, 3), Due.STATE);
        due.is("back", x.back(1), 1);
        due.is("none won", x.score(12), Due.NONE);
        due.is("on again", x.point(0), 2);
        scores("1-1", x, 0, 0, 1, 1, 0, 0, 0, 2);
        RungPlay last = new RungPlay();
        last.set(3, 1);
        last.set(4, 1);
        for (int n = 1; n <= 400; n++) {
            due.is("point " + n, last.point(n <= 394 ? n % 2 : 0), n);
        }
        due.is("over with the 400th", last.score(12), 0);
        due.is("400 played", last.score(7), 400);
        due.is("STATE ahead of FULL", last.point(0), Due.STATE);
    }

    private static void likeliest() {
        RungPlay x = new RungPlay();
        due.is("0 0", x.likeliest(0, 0), 1);
        due.is("1 0", x.likeliest(1, 0), 9);
        due.is("0 1", x.likeliest(0, 1), 1);
        due.is("1 2", x.likeliest(1, 2), 3);
        due.is("9 9", x.likeliest(9, 9), 5);
        due.is("17 1", x.likeliest(17, 1), 9);
        due.is("18 0", x.likeliest(18, 0), 9);
        int[] noNumber = {-1, 19, Due.MIN, Due.MAX};
        for (int v : noNumber) {
            due.is("likeliest w " + v, x.likeliest(v, 0), Due.BAD);
            due.is("likeliest l " + v, x.likeliest(0, v), Due.BAD);
            due.is("likeliest both " + v, x.likeliest(v, v), Due.BAD);
        }
        due.is("19 together", x.likeliest(18, 1), Due.BAD);
        due.is("19 together", x.likeliest(9, 10), Due.BAD);
        for (int w = 0; w <= 18; w++) {
            for (int l = 0; w + l <= 18; l++) {
                due.is("likeliest " + w + " " + l, x.likeliest(w, l), byTrying(w, l));
                due.is("likeliest over " + w, x.likeliest(w, 19 - w), Due.BAD);
            }
        }
    }

    private static int byTrying(int w, int l) {
        BigInteger best = BigInteger.ZERO;
        int strength = 0;
        for (int k = 1; k <= 9; k++) {
            BigInteger here = BigInteger.valueOf(k).pow(w)
                    .multiply(BigInteger.valueOf(10 - k).pow(l));
            if (here.compareTo(best) > 0) {
                best = here;
                strength = k;
            }
        }
        return strength;
    }

    /** A scorer that keeps every board it has seen, and takes back by dropping the last ones. */
    private static void againstAPlainScorer(int run) {
        RungPlay x = new RungPlay();
        int[] rules = {0, 0, 1 + next(5), 1 + next(3), 1 + next(3), 0, next(3)};
        rules[5] = next(Math.max(1, rules[2] - 1));
        for (int what = 2; what < 7; what++) {
            x.set(what, rules[what]);
        }
        int[][] boards = new int[401][];
        boards[0] = new int[14];
        boards[0][0] = rules[5];
        boards[0][12] = Due.NONE;
        int at = 0;
        int skew = 1 + next(9);
        for (int n = 0; n < 30; n++) {
            String step = "run " + run + " step " + n;
            if (next(12) == 0) {
                int taken = 1 + next(9);
                due.is(step + ": back " + taken, x.back(taken), Math.min(taken, at));
                at = Math.max(0, at - taken);
            } else {
                int who = next(10) < skew ? 0 : 1;
                boolean isOver = boards[at][12] != Due.NONE;
                due.is(step + ": point", x.point(who), isOver ? Due.STATE : at + 1);
                if (!isOver) {
                    boards[at + 1] = onward(boards[at].clone(), who, rules);
                    at++;
                }
            }
            for (int what = 0; what < 13; what++) {
                due.is(step + ": score " + what, x.score(what), boards[at][what]);
            }
        }
    }

    /** Cell 13 holds who served first in the set. */
    private static int[] onward(int[] board, int who, int[] rules) {
        board[7]++;
        board[8 + 2 * board[6] + who]++;
        board[who]++;
        if (!gameOver(board[who], board[1 - who], rules)) {
            return board;
        }
        board[2 + who]++;
        board[6] = 1 - board[6];
        int lead = board[2 + who] - board[3 - who];
        boolean isTie = board[2] + board[3] == 2 * rules[3] + 1;
        if (board[2 + who] >= rules[3] && lead >= 2 || isTie) {
            board[2] = 0;
            board[3] = 0;
            board[4 + who]++;
            board[13] = 1 - board[13];
            board[6] = board[13];
            if (board[4 + who] == rules[4]) {
                board[12] = who;
            }
        }
        board[0] = board[6] == 0 ? rules[5] : 0;
        board[1] = 0;
        return board;
    }

    private static boolean gameOver(int own, int other, int[] rules) {
        int to = rules[2];
        int kind = rules[6];
        return own >= to && own - other >= 2 || kind > 0 && own >= to && own > other
                || kind > 1 && to > 2 && own >= to - 1 && other == 0;
    }

    private static int next(int bound) {
        seed = seed * 6364136223846793005L + 1442695040888963407L;
        return (int) ((seed >>> 33) % bound);
    }
}
