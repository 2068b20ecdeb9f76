/** Long mixed runs, wrong numbers among them, each answer held against the document told again. */
public final class RetoldTest {
    private static final String[] NAMES = {"set", "won", "chance", "lasts", "weight", "heaviest",
            "game", "round", "match", "point", "back", "score", "likeliest", "count", "trace"};
    private static final int[] WRONG = {-1, Due.MIN, Due.MAX, 21, 19, 401, 10, -2, 7, 13};
    private static final Due due = new Due();
    private static long seed = 20261119;

    public static void main(String[] args) {
        everyScoreByEveryRule();
        for (int run = 0; run < 400; run++) {
            mixedRun(run, 512);
        }
        due.end();
    }

    private static void everyScoreByEveryRule() {
        for (int tenths = 1; tenths <= 9; tenths++) {
            for (int to = 1; to <= 5; to++) {
                for (int kind = 0; kind < 3; kind++) {
                    for (int serves = 0; serves < 2; serves++) {
                        everyScore(tenths, to, kind, serves);
                    }
                }
            }
        }
    }

    private static void everyScore(int tenths, int to, int kind, int serves) {
        RungPlay x = new RungPlay();
        Retold told = new Retold();
        int[][] sets = {{serves, tenths}, {1 - serves, tenths % 9 + 1}, {2, to}, {6, kind},
            {5, Math.max(0, to - 2)}};
        for (int[] set : sets) {
            due.is("set", x.set(set[0], set[1]), told.set(set[0], set[1]));
        }
        String rules = " at " + tenths + " to " + to + " by " + kind + " on " + serves + ": ";
        for (int i = -1; i <= to + 1; i++) {
            for (int j = -1; j <= to + 1; j++) {
                for (int part = 0; part < 2; part++) {
                    String at = rules + i + " " + j + " " + part;
                    due.is("chance" + at, x.chance(i, j, serves, part),
                            told.chance(i, j, serves, part));
                    due.is("lasts" + at, x.lasts(i, j, serves, part),
                            told.lasts(i, j, serves, part));
                    due.is("weight" + at, x.weight(i, j, serves, part),
                            told.weight(i, j, serves, part));
                }
            }
        }
        due.is("heaviest i" + rules, x.heaviest(serves, 0), told.heaviest(serves, 0));
        due.is("heaviest j" + rules, x.heaviest(serves, 1), told.heaviest(serves, 1));
        due.is("game" + rules, x.game(serves), told.game(serves));
    }

    /** Some runs ask mostly for play, some for rules and chances; a few go on until it is full. */
    private static void mixedRun(int run, int calls) {
        RungPlay x = new RungPlay();
        Retold told = new Retold();
        int playing = next(10);
        int skew = 1 + next(9);
        for (int n = 0; n < calls; n++) {
            boolean isRules = n < 8;
            boolean isPlay = !isRules && next(10) < playing;
            int call = isRules ? 0 : isPlay ? 9 : next(NAMES.length);
            int[] v = new int[4];
            for (int k = 0; k < v.length; k++) {
                v[k] = number(call, k);
            }
            if (isPlay) {
                v[0] = next(10) < skew ? 0 : 1;
            }
            if (call == 10 && run % 4 == 0) {
                v[0] = 1 + next(3);
            }
            String asked = "run " + run + " call " + n + ": " + NAMES[call] + " " + v[0] + " "
                    + v[1] + " " + v[2] + " " + v[3];
            due.is(asked, answer(x, call, v), wanted(told, call, v));
        }
    }

    private static int number(int call, int k) {
        if (next(25) == 0) {
            return WRONG[next(WRONG.length)];
        }
        boolean isSmall = call == 5 || call == 6 || call == 9
                || call >= 2 && call <= 4 && k >= 2 || (call == 7 || call == 8) && k == 2;
        if (isSmall) {
            return next(2);
        }
        switch (call) {
            case 0:
                return k == 0 ? next(7) : next(7);
            case 1:
                return k == 0 ? next(3) : next(21);
            case 2:
            case 3:
            case 4:
                return next(6);
            case 7:
                return next(7);
            case 8:
                return next(4);
            case 10:
                return next(5) == 0 ? 1 + next(400) : 1 + next(12);
            case 11:
                return next(13);
            case 12:
                return next(12);
            default:
                return next(8);
        }
    }

    private static long answer(RungPlay x, int call, int[] v) {
        switch (call) {
            case 0:
                return x.set(v[0], v[1]);
            case 1:
                return x.won(v[0], v[1], v[2]);
            case 2:
                return x.chance(v[0], v[1], v[2], v[3]);
            case 3:
                return x.lasts(v[0], v[1], v[2], v[3]);
            case 4:
                return x.weight(v[0], v[1], v[2], v[3]);
            case 5:
                return x.heaviest(v[0], v[1]);
            case 6:
                return x.game(v[0]);
            case 7:
                return x.round(v[0], v[1], v[2]);
            case 8:
                return x.match(v[0], v[1], v[2]);
            case 9:
                return x.point(v[0]);
            case 10:
                return x.back(v[0]);
            case 11:
                return x.score(v[0]);
            case 12:
                return x.likeliest(v[0], v[1]);
            case 13:
                return x.count(v[0]);
            default:
                return x.trace();
        }
    }

    private static long wanted(Retold told, int call, int[] v) {
        switch (call) {
            case 0:
                return told.set(v[0], v[1]);
            case 1:
                return told.won(v[0], v[1], v[2]);
            case 2:
                return told.chance(v[0], v[1], v[2], v[3]);
            case 3:
                return told.lasts(v[0], v[1], v[2], v[3]);
            case 4:
                return told.weight(v[0], v[1], v[2], v[3]);
            case 5:
                return told.heaviest(v[0], v[1]);
            case 6:
                return told.game(v[0]);
            case 7:
                return told.round(v[0], v[1], v[2]);
            case 8:
                return told.match(v[0], v[1], v[2]);
            case 9:
                return told.point(v[0]);
            case 10:
                return told.back(v[0]);
            case 11:
                return told.score(v[0]);
            case 12:
                return told.likeliest(v[0], v[1]);
            case 13:
                return told.count(v[0]);
            default:
                return told.trace();
        }
    }

    private static int next(int bound) {
        seed = seed * 6364136223846793005L + 1442695040888963407L;
        return (int) ((seed >>> 33) % bound);
    }
}
