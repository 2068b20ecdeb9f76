import java.util.function.Supplier;

/** One test for each sentence on promises 8 to 10 (and "MILLIONTHS") that names an edge. */
public final class EdgesOfLadderTest {
    private static final Due due = new Due();

    public static void main(String[] args) {
        gameIsRoundedDown();
        gameTakesTheHeadStartWhereAServes();
        gameOfTheLeastAndTheMost();
        servesAreTwo();
        setIsWonByTwoMore();
        setToOneGame();
        tieIsHalvedAndRoundedDown();
        scoresAreAddedThenRoundedDown();
        theOtherOneServesThen();
        roundIsAskedOfZeroToG();
        matchIsWonByS();
        theOtherOneServesFirstThen();
        matchIsRoundedDown();
        matchIsAskedOfZeroToS();
        bothWithAllSetsAreRefused();
        theBoardIsNotLookedAt();
        fewerGamesAndSetsToldAnewLeaveNothingBehind();
        due.end();
    }

    /** A GAME is one point, so that its millionths are the tenths. */
    private static RungPlay onePoint(int a, int b, int games, int sets) {
        RungPlay x = new RungPlay();
        x.set(0, a);
        x.set(1, b);
        x.set(2, 1);
        x.set(6, 1);
        x.set(3, games);
        x.set(4, sets);
        return x;
    }

    // "CHANCE from its beginning ..., times 1000000, rounded down"
    private static void gameIsRoundedDown() {
        RungPlay x = new RungPlay();
        due.is("735729.23", x.game(0), 735729);
        due.is("264270.77", x.game(1), 264270);
        x.set(0, 1);
        x.set(2, 5);
        for (int kind = 0; kind <= 2; kind++) {
            x.set(6, kind);
            for (int a = 1; a <= 9; a++) {
                x.set(0, a);
                long upper = x.chance(0, 0, 0, 0);
                long lower = x.chance(0, 0, 0, 1);
                long told = x.game(0);
                due.holds("not over " + a + " by " + kind, told * lower <= upper * 1000000);
                due.holds("not under " + a + " by " + kind, (told + 1) * lower > upper * 1000000);
            }
        }
    }

    // "(A's HEAD START, where A serves, on A's side)"
    private static void gameTakesTheHeadStartWhereAServes() {
        for (int to = 1; to <= 5; to++) {
            for (int kind = 0; kind <= 2; kind++) {
                RungPlay x = new RungPlay();
                x.set(2, to);
                x.set(6, kind);
                int onB = x.game(1);
                for (int head = 0; head <= to - 2; head++) {
                    x.set(5, head);
                    long upper = x.chance(head, 0, 0, 0);
                    long lower = x.chance(head, 0, 0, 1);
                    due.is("A serves, " + head, x.game(0), upper * 1000000 / lower);
                    due.is("B serves, " + head, x.game(1), onB);
                }
            }
        }
        RungPlay x = new RungPlay();
        x.set(5, 2);
        due.is("two ahead to 4", x.game(0), 927138);
    }

    private static void gameOfTheLeastAndTheMost() {
        RungPlay x = new RungPlay();
        x.set(2, 5);
        x.set(0, 1);
        x.set(1, 9);
        due.is("a 1 to 5", x.game(0), 487);
        due.is("b 9 to 5", x.game(1), 999512);
        x.set(5, 3);
        x.set(0, 9);
        due.is("a 9 to 5, three ahead", x.game(0), 999984);
        RungPlay even = new RungPlay();
        even.set(0, 5);
        even.set(1, 5);
        for (int to = 1; to <= 5; to++) {
            even.set(2, to);
            due.is("even to " + to, even.game(0), 500000);
        }
    }

    // "BAD."
    private static void servesAreTwo() {
        int[] neither = {-1, 2, 3, Due.MIN, Due.MAX};
        for (int v : neither) {
            Seen.refused(due, "game " + v, RungPlay::new, x -> x.game(v), Due.BAD);
            Seen.refused(due, "round " + v, RungPlay::new, x -> x.round(0, 0, v), Due.BAD);
            Seen.refused(due, "match " + v, RungPlay::new, x -> x.match(0, 0, v), Due.BAD);
            Seen.refused(due, "round, won, " + v, RungPlay::new, x -> x.round(6, 0, v), Due.BAD);
            Seen.refused(due, "match, won, " + v, RungPlay::new, x -> x.match(2, 0, v), Due.BAD);
        }
    }

    // "who first has G, and 2 more than the other one"; "WON: 1000000, or 0"
    private static void setIsWonByTwoMore() {
        for (int games = 2; games <= 6; games++) {
            RungPlay x = onePoint(6, 3, games, 1);
            for (int serves = 0; serves <= 1; serves++) {
                due.is("G, 2 more", x.round(games, games - 2, serves), 1000000);
                due.is("G, 2 fewer", x.round(games - 2, games, serves), 0);
                due.is("G, 0", x.round(games, 0, serves), 1000000);
                due.is("0, G", x.round(0, games, serves), 0);
                due.is("G all", x.round(games, games, serves), 450000);
            }
            // One GAME more makes 2 more; one fewer makes the TIE of .45.
            due.is("G, 1 more, A serves", x.round(games, games - 1, 0), 780000);
            due.is("G, 1 more, B serves", x.round(games, games - 1, 1), 615000);
            due.is("G, 1 fewer, A serves", x.round(games - 1, games, 0), 270000);
            due.is("G, 1 fewer, B serves", x.round(games - 1, games, 1), 135000);
            due.is("G - 1 all, A serves", x.round(games - 1, games - 1, 0), 423000);
            // A wins the set by .6 at once, else it is G - 1 all and B serves no more.
            due.is("G - 1, G - 2, A serves", x.round(games - 1, games - 2, 0), 769200);
        }
    }

    private static void setToOneGame() {
        RungPlay x = onePoint(6, 3, 1, 1);
        due.is("1 0 is not won", x.round(1, 0, 1), 615000);
        due.is("0 1 is not lost", x.round(0, 1, 1), 135000);
        due.is("1 1 is the TIE", x.round(1, 1, 0), 450000);
        due.is("0 0", x.round(0, 0, 0), 423000);
        due.is("2 0 is not asked", x.round(2, 0, 0), Due.BAD);
    }

    // "at G all a TIE: one GAME more decides, as of half of both servers' GAMES: their sum,
    // halved, rounded down"
    private static void tieIsHalvedAndRoundedDown() {
        RungPlay x = new RungPlay();
        due.is("999999, halved", x.round(6, 6, 0), 499999);
        due.is("999999, halved, B serves", x.round(6, 6, 1), 499999);
        x.set(1, 5);
        due.is("1235729, halved", x.round(6, 6, 0), 617864);
        x.set(5, 2);
        due.is("with the head start", x.round(6, 6, 1), (x.game(0) + 500000) / 2);
    }

    // "c times that with one GAME more of A's and (1000000 - c) times that with one more of B's,
    // added, by 1000000, rounded down"
    private static void scoresAreAddedThenRoundedDown() {
        RungPlay x = new RungPlay();
        for (int b = 1; b <= 9; b++) {
            x.set(1, b);
            for (int serves = 0; serves <= 1; serves++) {
                long c = x.game(serves);
                for (int k = 3; k <= 5; k++) {
                    long more = x.round(k + 1, k, 1 - serves);
                    long fewer = x.round(k, k + 1, 1 - serves);
                    due.is(k + " all of " + b + ", serves " + serves, x.round(k, k, serves),
                            (c * more + (1000000 - c) * fewer) / 1000000);
                }
            }
        }
    }

    // "c the GAME's of who serves; the other one serves then"
    private static void theOtherOneServesThen() {
        RungPlay x = onePoint(9, 1, 2, 1);
        // 1 0: .9 wins it at once, else 1 1, which B serves.
        due.is("1 1, A serves", x.round(1, 1, 0), 500000);
        due.is("1 0, A serves", x.round(1, 0, 0), 950000);
        due.is("1 0, B serves", x.round(1, 0, 1), 550000);
        due.is("0 1, A serves", x.round(0, 1, 0), 450000);
        due.is("0 1, B serves", x.round(0, 1, 1), 50000);
        due.is("0 0, A serves", x.round(0, 0, 0), 500000);
        due.is("2 1, A serves", x.round(2, 1, 0), 950000);
        due.is("2 1, B serves", x.round(2, 1, 1), 550000);
    }

    // "BAD: x, y 0 .. G."
    private static void roundIsAskedOfZeroToG() {
        for (int games = 1; games <= 6; games++) {
            int most = games;
            Supplier<RungPlay> made = () -> onePoint(6, 3, most, 2);
            int[] no = {-1, games + 1, games + 2, Due.MIN, Due.MAX};
            for (int v : no) {
                Seen.refused(due, "x " + v, made, x -> x.round(v, 0, 0), Due.BAD);
                Seen.refused(due, "y " + v, made, x -> x.round(0, v, 0), Due.BAD);
                Seen.refused(due, "both " + v, made, x -> x.round(v, v, 1), Due.BAD);
            }
            RungPlay x = made.get();
            due.is("G all", x.round(games, games, 0), 450000);
            due.holds("0 all", x.round(0, 0, 0) > 0);
            due.holds("G 0", x.round(games, 0, 0) > 0);
            due.holds("0 G", x.round(0, games, 0) >= 0);
        }
    }

    // "of who first has S"
    private static void matchIsWonByS() {
        for (int sets = 1; sets <= 3; sets++) {
            RungPlay x = onePoint(6, 3, 1, sets);
            for (int serves = 0; serves <= 1; serves++) {
                for (int v = 0; v < sets; v++) {
                    due.is("S " + v, x.match(sets, v, serves), 1000000);
                    due.is(v + " S", x.match(v, sets, serves), 0);
                }
                due.is("S - 1 all", x.match(sets - 1, sets - 1, serves), 423000);
            }
        }
        RungPlay x = onePoint(6, 3, 1, 3);
        due.is("2 1 is not won", x.match(2, 1, 0), 667071);
        due.is("1 2 is not lost", x.match(1, 2, 0), 178929);
        due.is("0 2", x.match(0, 2, 0), 75686);
    }

    // "by the SET from 0, 0, who serves first in it the one who did not in the SET ahead": who is
    // first matters by what is rounded down alone
    private static void theOtherOneServesFirstThen() {
        RungPlay x = new RungPlay();
        x.set(0, 8);
        x.set(1, 2);
        x.set(2, 3);
        x.set(5, 1);
        due.is("a set, A first", x.round(0, 0, 0), 568632);
        due.is("a set, B first", x.round(0, 0, 1), 568627);
        due.is("1 1, A first", x.match(1, 1, 0), 568632);
        due.is("1 1, B first", x.match(1, 1, 1), 568627);
        // 568632 and 431368 times .568627; 568627 and 431373 times .568632
        due.is("1 0, A first", x.match(1, 0, 0), 813919);
        due.is("1 0, B first", x.match(1, 0, 1), 813919);
        // 568632 times .568627, either way
        due.is("0 1, A first", x.match(0, 1, 0), 323339);
        due.is("0 1, B first", x.match(0, 1, 1), 323339);
        // .568632 times 813919 and .431368 times 323339; .568627 times and .431373 times
        due.is("0 0, A first", x.match(0, 0, 0), 602298);
        due.is("0 0, B first", x.match(0, 0, 1), 602296);
        x.set(4, 1);
        due.is("one set, A first", x.match(0, 0, 0), 568632);
        due.is("one set, B first", x.match(0, 0, 1), 568627);
    }

    private static void matchIsRoundedDown() {
        RungPlay x = new RungPlay();
        due.is("1 1, A first", x.match(1, 1, 0), 499994);
        due.is("1 1, B first", x.match(1, 1, 1), 499994);
        // 499994 and 500006 times .499994
        due.is("749993.999964", x.match(1, 0, 0), 749993);
        due.is("249994.000036", x.match(0, 1, 0), 249994);
        // 499994 times .749993 and 500006 times .249994
        due.is("499990.5", x.match(0, 0, 0), 499990);
    }

    // "BAD: u, v 0 .. S"
    private static void matchIsAskedOfZeroToS() {
        for (int sets = 1; sets <= 3; sets++) {
            int most = sets;
            Supplier<RungPlay> made = () -> onePoint(6, 3, 2, most);
            int[] no = {-1, sets + 1, sets + 2, Due.MIN, Due.MAX};
            for (int v : no) {
                Seen.refused(due, "u " + v, made, x -> x.match(v, 0, 0), Due.BAD);
                Seen.refused(due, "v " + v, made, x -> x.match(0, v, 0), Due.BAD);
                Seen.refused(due, "both " + v, made, x -> x.match(v, v, 1), Due.BAD);
            }
            RungPlay x = made.get();
            due.holds("0 all", x.match(0, 0, 0) > 0);
            due.is("S 0", x.match(sets, 0, 0), 1000000);
            due.is("0 S", x.match(0, sets, 0), 0);
        }
    }

    // "not both S"
    private static void bothWithAllSetsAreRefused() {
        for (int sets = 1; sets <= 3; sets++) {
            int most = sets;
            for (int serves = 0; serves <= 1; serves++) {
                int who = serves;
                Seen.refused(due, "both S " + sets, () -> onePoint(6, 3, 2, most),
                        x -> x.match(most, most, who), Due.BAD);
            }
        }
    }

    private static void theBoardIsNotLookedAt() {
        RungPlay x = onePoint(6, 3, 1, 1);
        int match = x.match(0, 0, 0);
        int round = x.round(0, 0, 0);
        int game = x.game(0);
        x.point(0);
        x.point(0);
        due.is("over", x.score(12), 0);
        due.is("match", x.match(0, 0, 0), match);
        due.is("round", x.round(0, 0, 0), round);
        due.is("game", x.game(0), game);
        x.set(0, 7);
        due.is("a told anew", x.game(0), 700000);
    }

    private static void fewerGamesAndSetsToldAnewLeaveNothingBehind() {
        RungPlay used = onePoint(6, 3, 6, 3);
        for (int games = 6; games >= 1; games--) {
            used.set(3, 6);
            used.round(0, 0, 0);
            used.set(3, games);
            RungPlay fresh = onePoint(6, 3, games, 3);
            for (int serves = 0; serves <= 1; serves++) {
                due.is("G all", used.round(games, games, serves), 450000);
                due.is("G, G - 1", used.round(games, games - 1, serves),
                        fresh.round(games, games - 1, serves));
                due.is("0 0", used.round(0, 0, serves), fresh.round(0, 0, serves));
            }
        }
        for (int sets = 3; sets >= 1; sets--) {
            used.set(4, 3);
            used.match(0, 0, 0);
            used.set(4, sets);
            RungPlay fresh = onePoint(6, 3, 1, sets);
            for (int serves = 0; serves <= 1; serves++) {
                due.is("sets 0 0", used.match(0, 0, serves), fresh.match(0, 0, serves));
                due.is("S - 1 all", used.match(sets - 1, sets - 1, serves), 423000);
            }
        }
    }
}
