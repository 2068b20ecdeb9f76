/**
 * Two play points that make games, games that make sets, sets that make a match: the chances of
 * each rung, and a match that is played point by point and taken back.
 */
public final class RungPlay {
    public static final int BAD = -1, STATE = -2, FULL = -3, NONE = -9;
    public static final long NO = -1000000000000000000L;

    private static final int A = 0, B = 1;
    private static final int NOBODY = 0, FIRST = 1, SECOND = 2;
    private static final int PLAIN = 0, SUDDEN = 1, SHORT = 2;
    private static final int TENTHS_ON_SERVE_OF_A = 0, TENTHS_ON_SERVE_OF_B = 1, TO_POINTS = 2,
            TO_GAMES = 3, TO_SETS = 4, HEAD_START = 5, KIND = 6;
    private static final int MOST_TO_POINTS = 5, MOST_TO_GAMES = 6, MOST_TO_SETS = 3;
    private static final int MOST_ASKED = 20, MOST_PLAYED = 400, MOST_TOLD = 18, LAST_SCORE = 12;
    private static final long MILLION = 1000000L;
    private static final long[] TENS = {1L, 10L, 100L, 1000L, 10000L, 100000L, 1000000L,
            10000000L, 100000000L, 1000000000L, 10000000000L};

    private final Rules rules;
    private final GameOdds odds;
    private final Ladder ladder;
    private final Play play;
    private long traced;

    public RungPlay() {
        rules = new Rules();
        odds = new GameOdds(rules);
        ladder = new Ladder(rules);
        play = new Play(rules);
        traced = 0;
    }

    // ---- rules

    public int set(int what, int v) {
        if (!rules.allows(what, v)) {
            return BAD;
        }
        boolean isTenths = what == TENTHS_ON_SERVE_OF_A || what == TENTHS_ON_SERVE_OF_B;
        if (!isTenths && play.played > 0) {
            return STATE;
        }
        int was = rules.told(what);
        rules.tell(what, v);
        return was;
    }

    public int won(int kind, int i, int j) {
        if (!within(kind, PLAIN, SHORT) || !within(i, 0, MOST_ASKED) || !within(j, 0, MOST_ASKED)) {
            return BAD;
        }
        traced += asked(kind);
        return rules.gameWinner(kind, i, j);
    }

    // ---- games

    public long chance(int i, int j, int serves, int part) {
        if (!isScore(i, j) || !isEither(serves) || !isEither(part)) {
            return NO;
        }
        odds.reckon(serves);
        return inLeastForm(odds.chances.at(i, j), odds.bottom(i, j), part);
    }

    public long lasts(int i, int j, int serves, int part) {
        if (!isScore(i, j) || !isEither(serves) || !isEither(part)) {
            return NO;
        }
        odds.reckon(serves);
        return inLeastForm(odds.lengths.at(i, j), odds.bottom(i, j), part);
    }

    public long weight(int i, int j, int serves, int part) {
        if (!isScore(i, j) || !isEither(serves) || !isEither(part)) {
            return NO;
        }
        if (rules.gameWinner(rules.kind, i, j) != NOBODY) {
            return NO;
        }
        odds.reckon(serves);
        // P all is the same as P - 1 all, and there one point more stays on the board.
        int less = i == rules.toPoints && j == rules.toPoints ? 1 : 0;
        return inLeastForm(odds.weightAt(i - less, j - less),
                odds.bottom(i - less + 1, j - less), part);
    }

    public int heaviest(int serves, int what) {
        if (!isEither(serves) || !isEither(what)) {
            return BAD;
        }
        odds.reckon(serves);
        return odds.heaviestScore(what);
    }

    // ---- sets, the match

    public int game(int serves) {
        if (!isEither(serves)) {
            return BAD;
        }
        return (int) odds.inMillionths(serves);
    }

    public int round(int x, int y, int serves) {
        if (!within(x, 0, rules.toGames) || !within(y, 0, rules.toGames) || !isEither(serves)) {
            return BAD;
        }
        return (int) ladder.ofSet(x, y, serves, odds.inMillionths(A), odds.inMillionths(B));
    }

    public int match(int u, int v, int serves) {
        if (!within(u, 0, rules.toSets) || !within(v, 0, rules.toSets) || !isEither(serves)) {
            return BAD;
        }
        if (u == rules.toSets && v == rules.toSets) {
            return BAD;
        }
        return (int) ladder.ofMatch(u, v, serves, odds.inMillionths(A), odds.inMillionths(B));
    }

    // ---- play

    public int point(int who) {
        if (!isEither(who)) {
            return BAD;
        }
        if (play.matchWinner() != NONE) {
            return STATE;
        }
        if (play.played >= MOST_PLAYED) {
            return FULL;
        }
        play.tell(who);
        return play.played;
    }

    public int back(int n) {
        if (!within(n, 1, MOST_PLAYED)) {
            return BAD;
        }
        return play.takeBack(n);
    }

    public int score(int what) {
        if (!within(what, 0, LAST_SCORE)) {
            return BAD;
        }
        return play.told(what);
    }

    public int likeliest(int w, int l) {
        if (!within(w, 0, MOST_TOLD) || !within(l, 0, MOST_TOLD) || w + l > MOST_TOLD) {
            return BAD;
        }
        int best = 1;
        for (int strength = 2; strength <= 9; strength++) {
            if (likelihood(strength, w, l) > likelihood(best, w, l)) {
                best = strength;
            }
        }
        return best;
    }

    public int count(int what) {
        return rules.told(what);
    }

    public long trace() {
        return traced;
    }

    // ---- what the calls share

    private static boolean within(int v, int least, int most) {
        return least <= v && v <= most;
    }

    private static boolean isEither(int v) {
        return v == 0 || v == 1;
    }

    private boolean isScore(int i, int j) {
        int most = rules.toPoints;
        return within(i, 0, most) && within(j, 0, most)
                && (rules.kind == PLAIN || i < most || j < most);
    }

    /** Each kind asks the one over it first, so what it adds holds what that one adds. */
    private static int asked(int kind) {
        return kind == PLAIN ? 1 : kind == SUDDEN ? 11 : 111;
    }

    /** In ten to the power of w + l parts: at most 9 to the power of 18, which a long holds. */
    private static long likelihood(int strength, int w, int l) {
        long parts = 1;
        for (int n = 0; n < w; n++) {
            parts *= strength;
        }
        for (int n = 0; n < l; n++) {
            parts *= 10 - strength;
        }
        return parts;
    }

    private static long inLeastForm(long top, long bottom, int part) {
        long shared = greatestDivisor(top, bottom);
        long whole = part == 0 ? top : bottom;
        return shared > 1 ? whole / shared : whole;
    }

    private static long greatestDivisor(long x, long y) {
        long greater = x;
        long smaller = y;
        // Euclid's steps on longs are fewer than a hundred.
        for (int n = 0; n < 200 && smaller > 0; n++) {
            long rest = greater % smaller;
            greater = smaller;
            smaller = rest;
        }
        return greater;
    }

    /** The rules at hand, and who has won by them. */
    private static final class Rules {
        int tenthsOnServeOfA = 6;
        int tenthsOnServeOfB = 4;
        int toPoints = 4;
        int toGames = 6;
        int toSets = 2;
        int headStart = 0;
        int kind = PLAIN;

        boolean allows(int what, int v) {
            switch (what) {
                case TENTHS_ON_SERVE_OF_A:
                case TENTHS_ON_SERVE_OF_B:
                    return within(v, 1, 9);
                case TO_POINTS:
                    return within(v, 1, MOST_TO_POINTS);
                case TO_GAMES:
                    return within(v, 1, MOST_TO_GAMES);
                case TO_SETS:
                    return within(v, 1, MOST_TO_SETS);
                case HEAD_START:
                    return within(v, 0, Math.max(0, toPoints - 2));
                case KIND:
                    return within(v, PLAIN, SHORT);
                default:
                    return false;
            }
        }

        int told(int what) {
            switch (what) {
                case TENTHS_ON_SERVE_OF_A:
                    return tenthsOnServeOfA;
                case TENTHS_ON_SERVE_OF_B:
                    return tenthsOnServeOfB;
                case TO_POINTS:
                    return toPoints;
                case TO_GAMES:
                    return toGames;
                case TO_SETS:
                    return toSets;
                case HEAD_START:
                    return headStart;
                case KIND:
                    return kind;
                default:
                    return BAD;
            }
        }

        void tell(int what, int v) {
            switch (what) {
                case TENTHS_ON_SERVE_OF_A:
                    tenthsOnServeOfA = v;
                    break;
                case TENTHS_ON_SERVE_OF_B:
                    tenthsOnServeOfB = v;
                    break;
                case TO_POINTS:
                    toPoints = v;
                    headStart = 0;
                    break;
                case TO_GAMES:
                    toGames = v;
                    break;
                case TO_SETS:
                    toSets = v;
                    break;
                case HEAD_START:
                    headStart = v;
                    break;
                case KIND:
                    kind = v;
                    break;
                default:
                    break;
            }
        }

        /** In how many of ten A wins a point: both strengths are A's, by who serves. */
        int tenthsOfA(int serves) {
            return serves == A ? tenthsOnServeOfA : tenthsOnServeOfB;
        }

        int headStartOfA(int serves) {
            return serves == A ? headStart : 0;
        }

        /** By every kind only the one who has more wins, so the kinds differ in when it is over. */
        int gameWinner(int kindAsked, int i, int j) {
            int more = Math.max(i, j);
            int fewer = Math.min(i, j);
            boolean isOver = more >= toPoints && more - fewer >= 2;
            if (kindAsked >= SUDDEN) {
                isOver = isOver || more >= toPoints && more > fewer;
            }
            if (kindAsked >= SHORT && toPoints >= 3) {
                isOver = isOver || more >= toPoints - 1 && fewer == 0;
            }
            return isOver ? leader(i, j) : NOBODY;
        }

        int setWinner(int x, int y) {
            boolean isOver = Math.max(x, y) >= toGames && Math.abs(x - y) >= 2;
            boolean isTieOver = x + y > 2 * toGames;
            return isOver || isTieOver ? leader(x, y) : NOBODY;
        }

        int matchWinner(int u, int v) {
            return u >= toSets || v >= toSets ? leader(u, v) : NOBODY;
        }

        private static int leader(int i, int j) {
            return i > j ? FIRST : i < j ? SECOND : NOBODY;
        }
    }

    /** A square of numbers; outside of it there is 0, and nothing is put. */
    private static final class Grid {
        private final int side;
        private final long[] cells;

        Grid(int most) {
            side = Math.max(0, most) + 1;
            cells = new long[side * side];
        }

        long at(int i, int j) {
            return holds(i, j) ? cells[i * side + j] : 0;
        }

        void put(int i, int j, long v) {
            if (holds(i, j)) {
                cells[i * side + j] = v;
            }
        }

        private boolean holds(int i, int j) {
            return 0 <= i && i < side && 0 <= j && j < side;
        }
    }

    /**
     * The chances and lengths of one game from each of its scores, exactly: whole numbers over
     * bottom(i, j), which is ten times as much for each point that may still come, up to P all.
     */
    private static final class GameOdds {
        private final Rules rules;
        final Grid chances = new Grid(MOST_TO_POINTS + 1);
        final Grid lengths = new Grid(MOST_TO_POINTS + 1);
        private int to;
        private long unit;

        GameOdds(Rules rules) {
            this.rules = rules;
            to = rules.toPoints;
            unit = 1;
        }

        long bottom(int i, int j) {
            return unit * tens(2 * to - i - j);
        }

        void reckon(int serves) {
            int win = rules.tenthsOfA(serves);
            int lose = 10 - win;
            to = rules.toPoints;
            unit = rules.kind == PLAIN ? win * win + lose * lose : 1;
            // One point over P is reached from P against P - 1; past P all nothing new comes.
            for (int i = to + 1; i >= 0; i--) {
                for (int j = Math.min(to + 1, 2 * to - i); j >= 0; j--) {
                    reckonScore(i, j, win, lose);
                }
            }
        }

        private void reckonScore(int i, int j, int win, int lose) {
            int winner = rules.gameWinner(rules.kind, i, j);
            if (winner != NOBODY) {
                chances.put(i, j, winner == FIRST ? bottom(i, j) : 0);
                lengths.put(i, j, 0);
            } else if (i + j == 2 * to) {
                // P all, by PLAIN alone: two points in a row decide, or it is P all again.
                chances.put(i, j, win * win);
                lengths.put(i, j, 200);
            } else {
                chances.put(i, j, win * chances.at(i + 1, j) + lose * chances.at(i, j + 1));
                lengths.put(i, j, bottom(i, j)
                        + win * lengths.at(i + 1, j) + lose * lengths.at(i, j + 1));
            }
        }

        /** From the game's beginning, rounded down. */
        long inMillionths(int serves) {
            reckon(serves);
            int headStart = rules.headStartOfA(serves);
            long bottom = bottom(headStart, 0);
            return bottom > 0 ? chances.at(headStart, 0) * MILLION / bottom : 0;
        }

        /** Over bottom(i + 1, j); for scores below P all. */
        long weightAt(int i, int j) {
            return chances.at(i + 1, j) - chances.at(i, j + 1);
        }

        /** The points of A's (what = 0), of B's (1) in it. */
        int heaviestScore(int what) {
            int answer = 0;
            long heaviestYet = -1;
            for (int i = 0; i < to; i++) {
                for (int j = 0; j < to; j++) {
                    // Weights of scores further on stand over less: that is made even here.
                    long evened = weightAt(i, j) * tens(i + j);
                    boolean counts = rules.gameWinner(rules.kind, i, j) == NOBODY;
                    if (counts && evened > heaviestYet) {
                        heaviestYet = evened;
                        answer = what == 0 ? i : j;
                    }
                }
            }
            return answer;
        }

        private static long tens(int n) {
            return 0 <= n && n < TENS.length ? TENS[n] : 1;
        }
    }

    /** A's chances of sets and the match in millionths, by those of the game on either serve. */
    private static final class Ladder {
        private final Rules rules;
        private final Grid byGames = new Grid(MOST_TO_GAMES + 1);
        private final Grid bySets = new Grid(MOST_TO_SETS);

        Ladder(Rules rules) {
            this.rules = rules;
        }

        long ofSet(int x, int y, int serves, long gameOnA, long gameOnB) {
            int to = rules.toGames;
            for (int i = to + 1; i >= x; i--) {
                for (int j = to + 1; j >= y; j--) {
                    boolean isServedByA = (serves + i - x + j - y) % 2 == A;
                    long c = isServedByA ? gameOnA : gameOnB;
                    if (i == to && j == to) {
                        c = (gameOnA + gameOnB) / 2;
                    }
                    byGames.put(i, j, ofScore(byGames, i, j, rules.setWinner(i, j), c));
                }
            }
            return byGames.at(x, y);
        }

        long ofMatch(int u, int v, int serves, long gameOnA, long gameOnB) {
            long setFromA = ofSet(0, 0, A, gameOnA, gameOnB);
            long setFromB = ofSet(0, 0, B, gameOnA, gameOnB);
            for (int i = rules.toSets; i >= u; i--) {
                for (int j = rules.toSets; j >= v; j--) {
                    boolean isBegunByA = (serves + i - u + j - v) % 2 == A;
                    long c = isBegunByA ? setFromA : setFromB;
                    bySets.put(i, j, ofScore(bySets, i, j, rules.matchWinner(i, j), c));
                }
            }
            return bySets.at(u, v);
        }

        private static long ofScore(Grid grid, int i, int j, int winner, long c) {
            if (winner != NOBODY) {
                return winner == FIRST ? MILLION : 0;
            }
            return (c * grid.at(i + 1, j) + (MILLION - c) * grid.at(i, j + 1)) / MILLION;
        }
    }

    /** What A and B have of something. */
    private static final class Pair {
        int ofA;
        int ofB;

        void clear() {
            ofA = 0;
            ofB = 0;
        }

        void oneMore(int who) {
            if (who == A) {
                ofA++;
            } else {
                ofB++;
            }
        }
    }

    /** The match as it was played. The rules stay as they are while a point stands in it. */
    private static final class Play {
        private final Rules rules;
        private final boolean[] wonByA = new boolean[MOST_PLAYED];
        private final Pair points = new Pair();
        private final Pair games = new Pair();
        private final Pair sets = new Pair();
        private final Pair onServeOfA = new Pair();
        private final Pair onServeOfB = new Pair();
        private int servedFirst;
        private int serves;
        int played;

        Play(Rules rules) {
            this.rules = rules;
            restart();
        }

        private void restart() {
            points.clear();
            games.clear();
            sets.clear();
            onServeOfA.clear();
            onServeOfB.clear();
            servedFirst = A;
            serves = A;
            played = 0;
        }

        void tell(int who) {
            if (played < 0 || played >= wonByA.length) {
                return;
            }
            wonByA[played] = who == A;
            played++;
            if (serves == A) {
                onServeOfA.oneMore(who);
            } else {
                onServeOfB.oneMore(who);
            }
            points.oneMore(who);
            int winner = rules.gameWinner(rules.kind, pointsOfA(), points.ofB);
            if (winner != NOBODY) {
                endGame(winner == FIRST ? A : B);
            }
        }

        /** The head start is not kept in the points: it may be told anew before the first one. */
        private int pointsOfA() {
            return points.ofA + rules.headStartOfA(serves);
        }

        private void endGame(int who) {
            points.clear();
            games.oneMore(who);
            serves = serves == A ? B : A;
            int winner = rules.setWinner(games.ofA, games.ofB);
            if (winner != NOBODY) {
                endSet(winner == FIRST ? A : B);
            }
        }

        private void endSet(int who) {
            games.clear();
            sets.oneMore(who);
            servedFirst = servedFirst == A ? B : A;
            serves = servedFirst;
        }

        int takeBack(int n) {
            int was = played;
            int kept = Math.max(0, was - n);
            restart();
            for (int k = 0; k < kept && k < wonByA.length; k++) {
                tell(wonByA[k] ? A : B);
            }
            return was - kept;
        }

        int matchWinner() {
            int winner = rules.matchWinner(sets.ofA, sets.ofB);
            return winner == NOBODY ? NONE : winner == FIRST ? A : B;
        }

        int told(int what) {
            switch (what) {
                case 0:
                    return pointsOfA();
                case 1:
                    return points.ofB;
                case 2:
                    return games.ofA;
                case 3:
                    return games.ofB;
                case 4:
                    return sets.ofA;
                case 5:
                    return sets.ofB;
                case 6:
                    return serves;
                case 7:
                    return played;
                case 8:
                    return onServeOfA.ofA;
                case 9:
                    return onServeOfA.ofB;
                case 10:
                    return onServeOfB.ofA;
                case 11:
                    return onServeOfB.ofB;
                case 12:
                    return matchWinner();
                default:
                    return BAD;
            }
        }
    }
}
