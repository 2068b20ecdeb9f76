/** Promises 8 to 10: game, round, match. */
public final class LadderTest {
    private static final long MILLION = 1000000L;
    private static final Due due = new Due();

    public static void main(String[] args) {
        knownGames();
        knownSets();
        knownMatches();
        refusals();
        for (int run = 0; run < 120; run++) {
            againstTheWords(run);
        }
        rulesToldAnewLeaveNothingBehind();
        due.end();
    }

    private static void rulesToldAnewLeaveNothingBehind() {
        RungPlay used = new RungPlay();
        for (int run = 0; run < 20; run++) {
            RungPlay fresh = new RungPlay();
            tellRules(used, 41 * run + 7);
            tellRules(fresh, 41 * run + 7);
            String at = ", told anew " + run;
            int serves = run % 2;
            due.is("chance" + at, used.chance(0, 1, serves, 0), fresh.chance(0, 1, serves, 0));
            due.is("lasts" + at, used.lasts(0, 0, serves, 1), fresh.lasts(0, 0, serves, 1));
            due.is("weight" + at, used.weight(0, 0, serves, 0), fresh.weight(0, 0, serves, 0));
            due.is("heaviest" + at, used.heaviest(serves, 1), fresh.heaviest(serves, 1));
            due.is("game" + at, used.game(serves), fresh.game(serves));
            due.is("round" + at, used.round(0, 1, serves), fresh.round(0, 1, serves));
            due.is("match" + at, used.match(0, 0, serves), fresh.match(0, 0, serves));
        }
    }

    private static void tellRules(RungPlay x, int run) {
        x.set(0, 1 + run % 9);
        x.set(1, 1 + run / 9 % 9);
        x.set(2, 1 + run % 5);
        x.set(3, 1 + run % 6);
        x.set(4, 1 + run % 3);
        x.set(5, run / 3 % 4);
        x.set(6, run / 7 % 3);
    }

    private static void knownGames() {
        RungPlay x = new RungPlay();
        due.is("game 0", x.game(0), 735729);
        due.is("game 1", x.game(1), 264270);
        x.set(5, 1);
        due.is("game 0 with one", x.game(0), floorOf(x, 1, 0));
        due.is("game 1 with one", x.game(1), 264270);
        x.set(5, 2);
        due.is("game 0 with two", x.game(0), floorOf(x, 2, 0));
        x.set(2, 1);
        x.set(6, 1);
        due.is("game to 1", x.game(0), 600000);
        due.is("game to 1, B serves", x.game(1), 400000);
        x.set(0, 9);
        x.set(1, 9);
        due.is("game of 9", x.game(0), 900000);
        due.is("game of 9, B serves: b is A's, too", x.game(1), 900000);
    }

    private static long floorOf(RungPlay x, int i, int serves) {
        return x.chance(i, 0, serves, 0) * MILLION / x.chance(i, 0, serves, 1);
    }

    private static void knownSets() {
        RungPlay x = new RungPlay();
        x.set(2, 1);
        x.set(6, 1);
        x.set(3, 1);
        x.set(1, 3);
        // a GAME is .6 by A's serve, .3 by B's; the TIE is .45.
        due.is("tie", x.round(1, 1, 0), 450000);
        due.is("1 0, A serves", x.round(1, 0, 0), 780000);
        due.is("1 0, B serves", x.round(1, 0, 1), 615000);
        due.is("0 1, A serves", x.round(0, 1, 0), 270000);
        due.is("0 1, B serves", x.round(0, 1, 1), 135000);
        due.is("0 0, A serves", x.round(0, 0, 0), 423000);
        due.is("0 0, B serves", x.round(0, 0, 1), 423000);
        x.set(3, 2);
        due.is("2 0 is won", x.round(2, 0, 0), 1000000);
        due.is("0 2 is lost", x.round(0, 2, 1), 0);
        due.is("2 1 is not won", x.round(2, 1, 0), 780000);
        due.is("1 1", x.round(1, 1, 1), 423000);
        x.set(0, 9);
        x.set(1, 8);
        due.is("tie halved", x.round(2, 2, 0), 850000);
    }

    private static void knownMatches() {
        RungPlay x = new RungPlay();
        x.set(2, 1);
        x.set(6, 1);
        x.set(3, 1);
        x.set(1, 3);
        // a SET is .423, whoever serves first in it.
        due.is("1 1, A first", x.match(1, 1, 0), 423000);
        due.is("1 1, B first", x.match(1, 1, 1), 423000);
        due.is("1 0, A first", x.match(1, 0, 0), 667071);
        due.is("0 1, A first", x.match(0, 1, 0), 178929);
        due.is("won", x.match(2, 1, 0), 1000000);
        due.is("lost", x.match(0, 2, 1), 0);
        x.set(4, 1);
        due.is("one set", x.match(0, 0, 0), 423000);
        x.set(4, 3);
        due.is("2 2, A first", x.match(2, 2, 0), 423000);
        due.is("3 2", x.match(3, 2, 0), 1000000);
    }

    private static void refusals() {
        RungPlay x = new RungPlay();
        int[] neither = {-1, 2, Due.MIN, Due.MAX};
        for (int v : neither) {
            due.is("game " + v, x.game(v), Due.BAD);
            due.is("round serves " + v, x.round(0, 0, v), Due.BAD);
            due.is("match serves " + v, x.match(0, 0, v), Due.BAD);
        }
        int[] noGames = {-1, 7, Due.MIN, Due.MAX};
        for (int v : noGames) {
            due.is("round x " + v, x.round(v, 0, 0), Due.BAD);
            due.is("round y " + v, x.round(0, v, 0), Due.BAD);
        }
        int[] noSets = {-1, 3, Due.MIN, Due.MAX};
        for (int v : noSets) {
            due.is("match u " + v, x.match(v, 0, 0), Due.BAD);
            due.is("match v " + v, x.match(0, v, 0), Due.BAD);
        }
        due.is("both have all sets", x.match(2, 2, 0), Due.BAD);
        x.set(3, 3);
        due.is("round over fewer games", x.round(4, 0, 0), Due.BAD);
        x.set(4, 1);
        due.is("match over fewer sets", x.match(2, 0, 0), Due.BAD);
        due.is("both have the one set", x.match(1, 1, 1), Due.BAD);
    }

    private static void againstTheWords(int run) {
        RungPlay x = new RungPlay();
        tellRules(x, run);
        int games = x.count(3);
        int sets = x.count(4);
        long[] game = {floorOf(x, x.count(5), 0), floorOf(x, 0, 1)};
        for (int serves = 0; serves < 2; serves++) {
            due.is("game " + serves + ", run " + run, x.game(serves), game[serves]);
            for (int i = 0; i <= games; i++) {
                for (int j = 0; j <= games; j++) {
                    due.is("round " + i + " " + j + " " + serves + ", run " + run,
                            x.round(i, j, serves), set(games, i, j, serves, game));
                }
            }
            for (int i = 0; i <= sets; i++) {
                for (int j = 0; j <= sets; j++) {
                    boolean isBad = i == sets && j == sets;
                    due.is("match " + i + " " + j + " " + serves + ", run " + run,
                            x.match(i, j, serves),
                            isBad ? Due.BAD : match(sets, i, j, serves, games, game));
                }
            }
        }
    }

    private static long set(int to, int x, int y, int serves, long[] game) {
        if (x >= to && x - y >= 2) {
            return MILLION;
        }
        if (y >= to && y - x >= 2) {
            return 0;
        }
        if (x == to && y == to) {
            return (game[0] + game[1]) / 2;
        }
        long c = game[serves];
        return (c * set(to, x + 1, y, 1 - serves, game)
                + (MILLION - c) * set(to, x, y + 1, 1 - serves, game)) / MILLION;
    }

    private static long match(int to, int u, int v, int serves, int games, long[] game) {
        if (u == to) {
            return MILLION;
        }
        if (v == to) {
            return 0;
        }
        long c = set(games, 0, 0, serves, game);
        return (c * match(to, u + 1, v, 1 - serves, games, game)
                + (MILLION - c) * match(to, u, v + 1, 1 - serves, games, game)) / MILLION;
    }
}
