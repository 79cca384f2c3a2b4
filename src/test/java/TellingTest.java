/** Promises 11 to 15: learn, call, cast, ill, who. */
public final class TellingTest {
    public static void main(String[] args) {
        learning();
        callEdges();
        callsOfADay();
        manyCalls();
        casting();
        manyCasts();
        illness();
        who();
        Check.end();
    }

    /** An opera of one role and 4 hours, one of two roles and 2 hours, two singers. */
    private static OperaHouse small() {
        OperaHouse x = new OperaHouse();
        Check.opera(x, 4, 0, false, 1, 0, 1, 0, 0);
        Check.opera(x, 2, 0, false, 1, 0, 1, 0, 0, 0, 2, 0, 0);
        x.singer(1, 1, 0);
        x.singer(1, 1, 0);
        return x;
    }

    private static void learning() {
        OperaHouse x = small();
        int c = x.call(5, 0, 3, 1, 0);
        Check.no("singer -1", x.learn(-1, 1, 0, 1));
        Check.no("singer 2", x.learn(2, 1, 0, 1));
        Check.no("opera -1", x.learn(0, -1, 0, 1));
        Check.no("opera 2", x.learn(0, 2, 0, 1));
        Check.no("role -1", x.learn(0, 1, -1, 1));
        Check.no("role 2", x.learn(0, 1, 2, 1));
        Check.no("hours 0", x.learn(0, 1, 0, 0));
        Check.no("hours 100", x.learn(0, 1, 0, 100));
        Check.same("nothing learned yet", x.learned(0, c, 0, 29), 0);
        Check.yes("hours 99", x.learn(0, 1, 0, 99));
        Check.yes("hours 1", x.learn(0, 1, 0, 1));
        Check.same("sum", x.learned(0, c, 0, 0), 100);
        Check.same("another role", x.learned(0, c, 1, 0), 0);
        Check.same("another singer", x.learned(1, c, 0, 0), 0);
        x.next(6);
        Check.yes("told behind the call's day", x.learn(0, 1, 0, 7));
        Check.same("as of 5", x.learned(0, c, 0, 5), 100);
        Check.same("as of 6", x.learned(0, c, 0, 6), 107);
        for (int k = 3; k < 200; k++) {
            Check.yes("learn " + k, x.learn(1, 0, 0, 1));
        }
        Check.no("a 201st", x.learn(1, 0, 0, 1));
        Check.same("200 in all", x.learned(1, x.call(29, 0, 0, 0, 0), 0, 29), 197);
    }

    private static void callEdges() {
        OperaHouse x = small();
        x.next(3);
        Check.same("ahead of today", x.call(2, 0, 0, 0, 0), -1);
        Check.same("day 30", x.call(30, 0, 0, 0, 0), -1);
        Check.same("hour -1", x.call(3, -1, 0, 0, 0), -1);
        Check.same("kind -1", x.call(3, 0, -1, 0, 0), -1);
        Check.same("kind 4", x.call(3, 0, 4, 0, 0), -1);
        Check.same("opera -1", x.call(3, 0, 0, -1, 0), -1);
        Check.same("opera 2", x.call(3, 0, 0, 2, 0), -1);
        Check.same("halves -1", x.call(3, 0, 0, 0, -1), -1);
        Check.same("halves 4", x.call(3, 0, 0, 0, 4), -1);
        Check.same("most", x.call(3, Integer.MAX_VALUE, 0, 0, 0), -1);
        Check.same("none yet", x.count(3), 0);
        Check.same("today", x.call(3, 0, 0, 0, 3), 0);
        Check.same("day 29", x.call(29, 0, 0, 0, 0), 1);
        // 2, 3, 4, 4 hours, and 2 for opera 1
        int[] last = {22, 21, 20, 20};
        for (int kind = 0; kind < 4; kind++) {
            Check.same("too late, kind " + kind, x.call(4, last[kind] + 1, kind, 0, 0), -1);
            Check.same("just by 24, kind " + kind, x.call(4, last[kind], kind, 0, 0), 2 + kind);
        }
        Check.same("night of two hours", x.call(4, 22, 3, 1, 0), 6);
        Check.same("marks have three", x.call(4, 22, 1, 1, 0), -1);
        Check.same("seven", x.count(3), 7);
    }

    /** How long each kind goes on is seen by what is on when another one begins. */
    private static void callsOfADay() {
        int[] hours = {2, 3, 4, 4};
        for (int kind = 0; kind < 4; kind++) {
            OperaHouse x = small();
            x.call(0, 0, kind, 0, 1);
            int within = x.call(0, hours[kind] - 1, 0, 0, 1);
            Check.same("on in the last hour, kind " + kind, Check.times(x, 0, 5, within, -1), 1);
            OperaHouse y = small();
            y.call(0, 0, kind, 0, 1);
            int behind = y.call(0, hours[kind], 0, 0, 1);
            Check.same("ended then, kind " + kind, Check.times(y, 0, 5, behind, -1), 0);
        }
    }

    private static void manyCalls() {
        OperaHouse x = small();
        for (int k = 0; k < 60; k++) {
            Check.same("call " + k, x.call(k % 30, 0, 0, 0, 0), k);
        }
        Check.same("a 61st", x.call(0, 0, 0, 0, 0), -1);
        Check.same("sixty", x.count(3), 60);
    }

    private static void casting() {
        OperaHouse x = small();
        x.call(3, 0, 0, 1, 0);
        Check.no("call -1", x.cast(-1, 0, 0, false));
        Check.no("call 1", x.cast(1, 0, 0, false));
        Check.no("role -1", x.cast(0, -1, 0, false));
        Check.no("role 2", x.cast(0, 2, 0, false));
        Check.no("singer -2", x.cast(0, 0, -2, false));
        Check.no("singer 2", x.cast(0, 0, 2, false));
        Check.same("none told", x.count(4), 0);
        Check.yes("cast", x.cast(0, 0, 0, false));
        Check.yes("nobody", x.cast(0, 1, -1, false));
        Check.yes("nobody covers", x.cast(0, 1, -1, true));
        Check.yes("cover", x.cast(0, 0, 1, true));
        Check.same("all count", x.count(4), 4);
        x.next(3);
        Check.yes("on the call's day", x.cast(0, 1, 1, false));
        x.next(1);
        Check.no("the call's day is ahead of today", x.cast(0, 1, 0, false));
        Check.no("for a cover, too", x.cast(0, 1, 0, true));
        Check.same("stays", x.who(0, 1, false, 29), 1);
        Check.same("five", x.count(4), 5);
    }

    private static void manyCasts() {
        OperaHouse x = small();
        x.call(3, 0, 0, 0, 0);
        for (int k = 0; k < 400; k++) {
            Check.yes("cast " + k, x.cast(0, 0, k % 3 - 1, k % 2 == 0));
        }
        Check.no("a 401st", x.cast(0, 0, 0, false));
        Check.no("a 401st, a cover", x.cast(0, 0, 0, true));
        Check.same("four hundred", x.count(4), 400);
        // 399 was the last cast, 398 the last cover
        Check.same("the last cast", x.who(0, 0, false, 0), -1);
        Check.same("the last cover", x.who(0, 0, true, 0), 1);
    }

    private static void illness() {
        OperaHouse x = small();
        Check.no("singer -1", x.ill(-1, 0, 0));
        Check.no("singer 2", x.ill(2, 0, 0));
        Check.no("from -1", x.ill(0, -1, 3));
        Check.no("to 30", x.ill(0, 3, 30));
        Check.no("from behind to", x.ill(0, 4, 3));
        Check.same("none told", x.count(5), 0);
        for (int day = 0; day < 8; day++) {
            x.cast(x.call(day, 0, 0, 0, 0), 0, 0, false);
        }
        x.next(6);
        Check.yes("days ahead of today", x.ill(0, 2, 4));
        Check.yes("one day", x.ill(0, 6, 6));
        Check.yes("another one", x.ill(1, 0, 29));
        for (int day = 0; day < 8; day++) {
            boolean ill = day >= 2 && day <= 4 || day == 6;
            Check.same("ill on " + day, Check.times(x, 6, 10, day, 0), ill ? 1 : 0);
            Check.same("not known on 5: " + day, Check.times(x, 5, 10, day, 0), 0);
        }
        for (int k = 3; k < 60; k++) {
            Check.yes("ill " + k, x.ill(0, 29, 29));
        }
        Check.no("a 61st", x.ill(0, 29, 29));
        Check.same("sixty", x.count(5), 60);
    }

    private static void who() {
        OperaHouse x = small();
        x.call(9, 0, 0, 1, 0);
        Check.same("nobody told", x.who(0, 0, false, 29), -1);
        x.next(2);
        x.cast(0, 0, 0, false);
        x.next(2);
        x.cast(0, 0, 1, false);
        x.cast(0, 0, 0, true);
        x.next(2);
        x.cast(0, 0, -1, false);
        x.cast(0, 0, 1, true);
        x.cast(0, 0, 0, true);
        int[] cast = {-1, -1, 0, 0, 1, 1, -1, -1};
        int[] cover = {-1, -1, -1, -1, 0, 0, 0, 0};
        for (int t = 0; t < 8; t++) {
            Check.same("cast as of " + t, x.who(0, 0, false, t), cast[t]);
            Check.same("cover as of " + t, x.who(0, 0, true, t), cover[t]);
        }
        Check.same("as of -1", x.who(0, 0, false, -1), -1);
        Check.same("as of the least", x.who(0, 0, false, Integer.MIN_VALUE), -1);
        Check.same("as of the most", x.who(0, 0, true, Integer.MAX_VALUE), 0);
        Check.same("another role", x.who(0, 1, false, 9), -1);
        Check.same("call -1", x.who(-1, 0, false, 9), -1);
        Check.same("call 1", x.who(1, 0, true, 9), -1);
        Check.same("role 2", x.who(0, 2, true, 9), -1);
        Check.same("role -1", x.who(0, -1, true, 9), -1);
        Check.same("role most", x.who(0, Integer.MAX_VALUE, true, 9), -1);
    }
}
