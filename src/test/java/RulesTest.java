/** Promises 1, 2, 3, 15, 16: a new object, set, won, count, trace. */
public final class RulesTest {
    private static final int[] LEAST = {1, 1, 1, 1, 1, 0, 0};
    private static final int[] MOST = {9, 9, 5, 6, 3, 2, 2};
    private static final int[] AT_FIRST = {6, 4, 4, 6, 2, 0, 0};
    private static final Due due = new Due();

    public static void main(String[] args) {
        aNewObjectHasTheRulesAsTold();
        setTellsWhatItWas();
        setRefusesWhatIsNotAsTold();
        headStartIsBoundByPoints();
        pointsToldAnewTakeTheHeadStart();
        onlyStrengthsAreToldInPlay();
        wonByEachKind();
        wonAgainstItsWords();
        wonRefuses();
        traceCountsTheBodies();
        due.end();
    }

    private static void aNewObjectHasTheRulesAsTold() {
        RungPlay x = new RungPlay();
        for (int what = 0; what < 7; what++) {
            due.is("new count " + what, x.count(what), AT_FIRST[what]);
        }
        due.is("new count 7", x.count(7), Due.BAD);
        due.is("new count -1", x.count(-1), Due.BAD);
        due.is("new count MIN", x.count(Due.MIN), Due.BAD);
        due.is("new count MAX", x.count(Due.MAX), Due.BAD);
        due.is("new trace", x.trace(), 0);
        for (int what = 0; what < 12; what++) {
            due.is("new score " + what, x.score(what), 0);
        }
        due.is("new score 12", x.score(12), Due.NONE);
        due.is("new back", x.back(1), 0);
    }

    private static void setTellsWhatItWas() {
        for (int what = 0; what < 7; what++) {
            RungPlay x = new RungPlay();
            int was = AT_FIRST[what];
            for (int v = LEAST[what]; v <= MOST[what]; v++) {
                due.is("set " + what + " " + v, x.set(what, v), was);
                was = v;
                for (int other = 0; other < 7; other++) {
                    due.is("count " + other + " after set " + what + " " + v,
                            x.count(other), other == what ? v : AT_FIRST[other]);
                }
            }
        }
    }

    private static void setRefusesWhatIsNotAsTold() {
        RungPlay x = new RungPlay();
        for (int what = 0; what < 7; what++) {
            due.is("set below " + what, x.set(what, LEAST[what] - 1), Due.BAD);
            due.is("set above " + what, x.set(what, MOST[what] + 1), Due.BAD);
            due.is("set MIN " + what, x.set(what, Due.MIN), Due.BAD);
            due.is("set MAX " + what, x.set(what, Due.MAX), Due.BAD);
        }
        due.is("set 7", x.set(7, 1), Due.BAD);
        due.is("set -1", x.set(-1, 1), Due.BAD);
        due.is("set MIN", x.set(Due.MIN, 1), Due.BAD);
        due.is("set MAX", x.set(Due.MAX, 1), Due.BAD);
        for (int what = 0; what < 7; what++) {
            due.is("unchanged " + what, x.count(what), AT_FIRST[what]);
        }
    }

    private static void headStartIsBoundByPoints() {
        for (int to = 1; to <= 5; to++) {
            int most = Math.max(0, to - 2);
            RungPlay x = new RungPlay();
            x.set(2, to);
            due.is("head start over, to " + to, x.set(5, most + 1), Due.BAD);
            due.is("head start below, to " + to, x.set(5, -1), Due.BAD);
            due.is("head start most, to " + to, x.set(5, most), 0);
            due.is("head start again, to " + to, x.set(5, 0), most);
        }
    }

    private static void pointsToldAnewTakeTheHeadStart() {
        RungPlay x = new RungPlay();
        x.set(5, 2);
        due.is("set BAD points", x.set(2, 6), Due.BAD);
        due.is("head start stays", x.count(5), 2);
        due.is("set points", x.set(2, 5), 4);
        due.is("head start gone", x.count(5), 0);
        x.set(5, 3);
        due.is("set the same points", x.set(2, 5), 5);
        due.is("head start gone by the same points", x.count(5), 0);
        x.set(5, 3);
        x.set(3, 2);
        x.set(4, 1);
        x.set(6, 1);
        x.set(0, 2);
        due.is("head start stays by others", x.count(5), 3);
    }

    private static void onlyStrengthsAreToldInPlay() {
        RungPlay x = new RungPlay();
        x.set(5, 1);
        x.point(1);
        due.is("a in play", x.set(0, 7), 6);
        due.is("b in play", x.set(1, 2), 4);
        due.is("a BAD in play", x.set(0, 10), Due.BAD);
        for (int what = 2; what < 7; what++) {
            int now = x.count(what);
            due.is("in play " + what, x.set(what, 1), Due.STATE);
            due.is("in play, what it is " + what, x.set(what, now), Due.STATE);
            due.is("BAD in play " + what, x.set(what, MOST[what] + 1), Due.BAD);
            due.is("in play unchanged " + what, x.count(what), now);
        }
        due.is("no such thing in play", x.set(7, 1), Due.BAD);
        due.is("head start stays in play", x.count(5), 1);
        x.back(1);
        due.is("after back", x.set(6, 2), 0);
        due.is("after back, points", x.set(2, 3), 4);
    }

    private static void wonByEachKind() {
        RungPlay x = new RungPlay();
        due.is("plain 4 3", x.won(0, 4, 3), 0);
        due.is("plain 4 2", x.won(0, 4, 2), 1);
        due.is("plain 2 4", x.won(0, 2, 4), 2);
        due.is("plain 3 0", x.won(0, 3, 0), 0);
        due.is("plain 5 3", x.won(0, 5, 3), 1);
        due.is("plain 20 19", x.won(0, 20, 19), 0);
        due.is("plain 18 20", x.won(0, 18, 20), 2);
        due.is("plain 0 0", x.won(0, 0, 0), 0);
        due.is("sudden 4 3", x.won(1, 4, 3), 1);
        due.is("sudden 19 20", x.won(1, 19, 20), 2);
        due.is("sudden 20 20", x.won(1, 20, 20), 0);
        due.is("sudden 3 0", x.won(1, 3, 0), 0);
        due.is("short 3 0", x.won(2, 3, 0), 1);
        due.is("short 0 3", x.won(2, 0, 3), 2);
        due.is("short 3 1", x.won(2, 3, 1), 0);
        due.is("short 2 0", x.won(2, 2, 0), 0);
        due.is("short 3 4", x.won(2, 3, 4), 2);
        x.set(2, 3);
        due.is("short to 3, 2 0", x.won(2, 2, 0), 1);
        due.is("short to 3, 1 0", x.won(2, 1, 0), 0);
        x.set(2, 2);
        due.is("short to 2, 1 0", x.won(2, 1, 0), 0);
        due.is("short to 2, 0 1", x.won(2, 0, 1), 0);
        x.set(2, 1);
        due.is("plain to 1, 1 0", x.won(0, 1, 0), 0);
        due.is("plain to 1, 2 0", x.won(0, 2, 0), 1);
        due.is("sudden to 1, 0 1", x.won(1, 0, 1), 2);
        due.is("short to 1, 0 0", x.won(2, 0, 0), 0);
        x.set(6, 2);
        due.is("the kind asked counts, not the one at hand", x.won(0, 1, 0), 0);
    }

    private static void wonAgainstItsWords() {
        for (int to = 1; to <= 5; to++) {
            for (int kind = 0; kind < 3; kind++) {
                RungPlay x = newRules(to);
                for (int i = 0; i <= 20; i++) {
                    for (int j = 0; j <= 20; j++) {
                        if ((i * 21 + j) % 400 == 0) {
                            x = newRules(to);
                        }
                        due.is("won to " + to + ": " + kind + " " + i + " " + j,
                                x.won(kind, i, j), wonInWords(to, kind, i, j));
                    }
                }
            }
        }
    }

    private static RungPlay newRules(int to) {
        RungPlay x = new RungPlay();
        x.set(2, to);
        return x;
    }

    private static int wonInWords(int to, int kind, int i, int j) {
        if (kind > 0) {
            int up = wonInWords(to, kind - 1, i, j);
            if (up != 0) {
                return up;
            }
        }
        if (endsFor(to, kind, i, j)) {
            return 1;
        }
        return endsFor(to, kind, j, i) ? 2 : 0;
    }

    private static boolean endsFor(int to, int kind, int own, int other) {
        if (kind == 0) {
            return own >= to && own >= other + 2;
        }
        if (kind == 1) {
            return own >= to && own > other;
        }
        return to >= 3 && own >= to - 1 && other == 0;
    }

    private static void wonRefuses() {
        RungPlay x = new RungPlay();
        int[] wrong = {-1, 21, Due.MIN, Due.MAX};
        for (int v : wrong) {
            due.is("won i " + v, x.won(0, v, 0), Due.BAD);
            due.is("won j " + v, x.won(0, 0, v), Due.BAD);
        }
        int[] noKind = {-1, 3, Due.MIN, Due.MAX};
        for (int kind : noKind) {
            due.is("won kind " + kind, x.won(kind, 0, 0), Due.BAD);
        }
        due.is("refused, not traced", x.trace(), 0);
    }

    private static void traceCountsTheBodies() {
        RungPlay x = new RungPlay();
        x.won(0, 4, 0);
        due.is("trace plain", x.trace(), 1);
        x.won(1, 4, 0);
        due.is("trace sudden", x.trace(), 12);
        x.won(2, 4, 0);
        due.is("trace short", x.trace(), 123);
        x.won(2, 1, 1);
        x.won(1, 1, 1);
        x.won(0, 1, 1);
        due.is("trace of none", x.trace(), 246);
        x.set(6, 2);
        x.chance(0, 0, 0, 0);
        x.lasts(0, 0, 0, 0);
        x.weight(0, 0, 0, 0);
        x.heaviest(0, 0);
        x.game(0);
        x.round(0, 0, 0);
        x.match(0, 0, 0);
        for (int n = 0; n < 9; n++) {
            x.point(n % 2);
        }
        x.back(3);
        due.is("trace of won alone", x.trace(), 246);
    }
}
