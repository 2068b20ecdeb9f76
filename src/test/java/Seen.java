import java.util.function.Supplier;
import java.util.function.ToLongFunction;

/** What can be seen of an object: a call that is refused must leave all of it as it was. */
final class Seen {
    private Seen() {
    }

    static void refused(Due due, String call, Supplier<RungPlay> made,
            ToLongFunction<RungPlay> asked, long answer) {
        RungPlay x = made.get();
        long[] before = of(x);
        due.is(call, asked.applyAsLong(x), answer);
        same(due, call, of(x), before);
    }

    static void same(Due due, String call, long[] now, long[] before) {
        for (int k = 0; k < before.length; k++) {
            due.is("after " + call + ", seen " + k, now[k], before[k]);
        }
    }

    /** Counts, scores, THE TRACE, and what the rules make of a game, a set and the match. */
    static long[] of(RungPlay x) {
        long[] seen = new long[27];
        for (int what = 0; what < 7; what++) {
            seen[what] = x.count(what);
        }
        for (int what = 0; what < 13; what++) {
            seen[7 + what] = x.score(what);
        }
        seen[20] = x.trace();
        seen[21] = x.game(0);
        seen[22] = x.game(1);
        seen[23] = x.round(0, 0, 0);
        seen[24] = x.match(0, 0, 0);
        seen[25] = x.chance(0, 0, 0, 0);
        seen[26] = x.lasts(0, 0, 1, 1);
        return seen;
    }
}
