/** Promises 16 and 17: wrong and told, kind by kind. */
public final class WrongTest {
    public static void main(String[] args) {
        throwing();
        order();
        latestWrong();
        stage();
        sets();
        setsHadTheirOwn();
        readiness();
        halves();
        chorusHours();
        roles();
        lessons();
        twice();
        rest();
        longDays();
        weeks();
        voices();
        asOf();
        Check.end();
    }

    /** One opera with one role, no seats, 3 hours; singers who suit. */
    private static OperaHouse house(int need, int singers) {
        OperaHouse x = new OperaHouse();
        Check.opera(x, 3, 0, false, need, 0, 10, 0, 0);
        for (int s = 0; s < singers; s++) {
            x.singer(1, 1, 0);
        }
        return x;
    }

    private static int castCall(OperaHouse x, int day, int hour, int kind, int o, int s) {
        int c = x.call(day, hour, kind, o, 0);
        x.cast(c, 0, s, false);
        return c;
    }

    private static void throwing() {
        OperaHouse x = house(1, 1);
        Check.throwsNothingSuch("told ahead of any wrong", x, 0, 0);
        x.call(0, 0, 0, 0, 0);
        Check.throwsNothingSuch("told ahead of any wrong, with a call", x, 0, 0);
        Check.same("one", x.wrong(0), 1);
        Check.same("kind", x.told(0, 0), 7);
        Check.throwsNothingSuch("k -1", x, -1, 0);
        Check.throwsNothingSuch("k 1", x, 1, 0);
        Check.throwsNothingSuch("k most", x, Integer.MAX_VALUE, 0);
        Check.throwsNothingSuch("what -1", x, 0, -1);
        Check.throwsNothingSuch("what 3", x, 0, 3);
        Check.same("a throw changes nothing", x.told(0, 2), 0);
    }

    private static void order() {
        OperaHouse x = house(1, 1);
        Check.write(x, 1, 0, 0, 0, 1, 1, 0, 0, 1, 1, 0, 0, 0, 1, 0, 0);
        x.opera(2, 1, false, 1);
        int late = x.call(1, 10, 3, 1, 0);
        int first = x.call(0, 10, 0, 0, 0);
        int same = x.call(0, 10, 0, 0, 0);
        x.cast(late, 0, 0, false);
        x.cast(late, 1, 0, false);
        // call 0 lacks: its rehearsals, a player, someone in role 2; 0 suits neither 0 nor 1, has not learned
        // and is in two roles
        Check.wrong("all in order", x, 0,
                7, first, 0, 7, same, 0,
                3, late, -1, 4, late, -1, 7, late, 2, 8, late, 0, 8, late, 1, 9, late, 0, 9, late, 1, 11, late, 1);
    }

    private static void latestWrong() {
        OperaHouse x = house(1, 1);
        int c = x.call(5, 0, 0, 0, 0);
        x.wrong(0);
        x.cast(c, 0, 0, false);
        x.call(0, 0, 0, 0, 0);
        Check.same("as it was at the latest wrong", x.told(0, 1), c);
        x.lay(0, 0, 0);
        x.may(0, 0, 0);
        x.instead(0, 0);
        Check.same("and still", x.told(0, 1), c);
        Check.same("now", x.wrong(0), 1);
        Check.same("now another call", x.told(0, 1), 1);
    }

    /** Kind 1. */
    private static void stage() {
        int[][] pairs = {
            // kind ahead, kind, hours behind its beginning, wrong
            {2, 2, 0, 1}, {2, 2, 2, 1}, {2, 2, 3, 0}, {3, 1, 2, 1}, {1, 2, 2, 1}, {1, 2, 3, 0}, {1, 3, 0, 1},
            {1, 1, 0, 0}, {0, 2, 0, 0}, {2, 0, 0, 0}, {0, 0, 0, 0}, {3, 3, 1, 1}};
        for (int[] p : pairs) {
            OperaHouse x = house(1, 1);
            x.call(2, 5, p[0], 0, 0);
            int c = x.call(2, 5 + p[2], p[1], 0, 0);
            Check.same("kind 1 of " + p[1] + " behind " + p[0] + " by " + p[2], Check.times(x, 0, 1, c, -1), p[3]);
            Check.same("the one ahead is not wrong", Check.times(x, 0, 1, 0, -1), 0);
        }
        OperaHouse x = house(1, 1);
        for (int k = 0; k < 4; k++) {
            x.call(0, 5, 1, 0, 0);
        }
        int later = x.call(0, 7, 1, 0, 0);
        int[] due = {0, 0, 1, 1};
        for (int k = 0; k < 4; k++) {
            Check.same("marks " + k, Check.times(x, 0, 1, k, -1), due[k]);
        }
        Check.same("marks when four are on", Check.times(x, 0, 1, later, -1), 1);
        OperaHouse y = house(1, 1);
        y.call(0, 5, 1, 0, 0);
        y.call(0, 7, 1, 0, 0);
        Check.same("the first of two has ended", Check.times(y, 0, 1, y.call(0, 8, 1, 0, 0), -1), 0);
        Check.same("two are on", Check.times(y, 0, 1, y.call(0, 9, 1, 0, 0), -1), 1);
        Check.same("full with marks on", Check.times(y, 0, 1, y.call(0, 11, 2, 0, 0), -1), 1);
        OperaHouse z = house(1, 1);
        z.call(0, 20, 3, 0, 0);
        Check.same("a number ahead, an hour behind", Check.times(z, 0, 1, z.call(0, 19, 1, 0, 0), -1), 0);
        Check.same("the lesser number is behind in the order", Check.times(z, 0, 1, 0, -1), 1);
    }

    /** Kind 2: three moves bring set 1 to the stage, in hours without marks, full and night. */
    private static void sets() {
        for (int hour = 0; hour < 5; hour++) {
            OperaHouse x = house(1, 1);
            Check.opera(x, 2, 1, false, 1, 0, 1, 0, 0);
            int c = x.call(0, hour, 3, 1, 0);
            Check.same("set 1 by hour " + hour, Check.times(x, 0, 2, c, -1), hour < 3 ? 1 : 0);
        }
        OperaHouse x = house(1, 1);
        Check.opera(x, 2, 1, false, 1, 0, 1, 0, 0);
        int c = x.call(0, 5, 2, 1, 0);
        Check.same("five hours", Check.times(x, 0, 2, c, -1), 0);
        x.call(0, 1, 0, 0, 0);
        Check.same("a room does not hold the wagons", Check.times(x, 0, 2, c, -1), 0);
        x.call(0, 2, 1, 0, 0);
        Check.same("marks do: two hours are left", Check.times(x, 0, 2, c, -1), 1);
        int d = x.call(1, 0, 2, 1, 0);
        Check.same("behind it there are hours again", Check.times(x, 0, 2, d, -1), 0);
        OperaHouse y = house(1, 1);
        Check.opera(y, 2, 1, false, 1, 0, 1, 0, 0);
        y.call(0, 3, 1, 1, 0);
        Check.same("marks need no set", Check.times(y, 0, 2, 0, -1), 0);
        Check.same("three hours were there ahead of marks", Check.times(y, 0, 2, y.call(0, 6, 3, 1, 0), -1), 0);
    }

    /** Each full and night that is not wrong so had its own set at stage; one that is wrong binds nothing. */
    private static void setsHadTheirOwn() {
        OperaHouse x = house(1, 1);
        Check.opera(x, 2, 1, false, 1, 0, 1, 0, 0);
        x.call(0, 8, 2, 0, 0);
        int soon = x.call(0, 12, 2, 1, 0);
        Check.same("set 1 an hour behind set 0", Check.times(x, 0, 2, soon, -1), 1);
        int next = x.call(0, 15, 2, 0, 0);
        Check.same("set 0 stood there, as the other was wrong", Check.times(x, 0, 2, next, -1), 0);
        int later = x.call(0, 21, 2, 1, 0);
        Check.same("three hours", Check.times(x, 0, 2, later, -1), 0);
        int together = x.call(0, 21, 2, 0, 0);
        Check.same("two sets at one hour", Check.times(x, 0, 2, together, -1), 1);
        OperaHouse y = house(1, 1);
        Check.opera(y, 2, 1, false, 1, 0, 1, 0, 0);
        y.call(0, 8, 2, 0, 0);
        Check.same("two moves, made ready ahead", Check.times(y, 0, 2, y.call(0, 13, 2, 1, 0), -1), 0);
        OperaHouse z = house(1, 1);
        Check.opera(z, 2, 1, false, 1, 0, 1, 0, 0);
        z.call(0, 0, 2, 0, 0);
        Check.same("two moves, not made ready", Check.times(z, 0, 2, z.call(0, 5, 2, 1, 0), -1), 1);
    }

    /** Kind 3. */
    private static void readiness() {
        OperaHouse x = house(1, 1);
        Check.opera(x, 3, 0, false, 1, 0, 1, 0, 0);
        int night = x.call(3, 20, 3, 0, 0);
        Check.same("nothing ahead", Check.times(x, 0, 3, night, -1), 1);
        x.call(0, 10, 0, 0, 0);
        x.call(0, 12, 1, 0, 0);
        Check.same("no full", Check.times(x, 0, 3, night, -1), 1);
        x.call(0, 15, 2, 1, 0);
        Check.same("a full of another opera", Check.times(x, 0, 3, night, -1), 1);
        x.call(0, 14, 2, 0, 0);
        Check.same("a full while marks are on", Check.times(x, 0, 3, night, -1), 1);
        x.call(3, 18, 2, 0, 0);
        Check.same("a full that has not ended", Check.times(x, 0, 3, night, -1), 1);
        x.call(3, 17, 2, 0, 0);
        Check.same("a full that ends when it begins", Check.times(x, 0, 3, night, -1), 0);
        OperaHouse y = house(1, 1);
        y.call(0, 15, 2, 0, 0);
        y.call(0, 12, 1, 0, 0);
        int n = y.call(0, 18, 3, 0, 0);
        y.call(0, 11, 0, 0, 0);
        Check.same("the room ends behind the marks' beginning", Check.times(y, 0, 3, n, -1), 1);
        y.call(0, 10, 0, 0, 0);
        Check.same("one behind the other without a gap", Check.times(y, 0, 3, n, -1), 0);
        OperaHouse z = house(1, 1);
        z.call(0, 0, 1, 0, 0);
        z.call(0, 3, 0, 0, 0);
        z.call(0, 5, 2, 0, 0);
        Check.same("marks ahead of the room alone", Check.times(z, 0, 3, z.call(0, 8, 3, 0, 0), -1), 1);
        OperaHouse w = house(1, 1);
        w.call(0, 0, 0, 0, 0);
        w.call(0, 2, 1, 0, 0);
        w.call(0, 5, 2, 0, 0);
        Check.same("from hour 0 on", Check.times(w, 0, 3, w.call(0, 8, 3, 0, 0), -1), 0);
        Check.same("a full needs none of these", Check.times(z, 0, 3, 2, -1), 0);
    }

    /** Kind 5. */
    private static void halves() {
        int[][] pairs = {{1, 1, 1}, {1, 2, 0}, {1, 3, 1}, {3, 2, 1}, {0, 3, 0}, {3, 0, 0}, {2, 2, 1}};
        for (int[] p : pairs) {
            OperaHouse x = house(1, 1);
            x.call(0, 0, 0, 0, p[0]);
            int c = x.call(0, 1, 0, 0, p[1]);
            int d = x.call(0, 2, 0, 0, p[0]);
            Check.same("halves " + p[0] + ", " + p[1], Check.times(x, 0, 5, c, -1), p[2]);
            Check.same("halves " + p[1] + ", " + p[0], Check.times(x, 0, 5, d, -1), p[2]);
            Check.same("the first", Check.times(x, 0, 5, 0, -1), 0);
        }
    }

    /** Kind 6: calls of 3 hours each. */
    private static void chorusHours() {
        OperaHouse x = new OperaHouse();
        Check.opera(x, 3, 0, true, 1, 0, 1, 0, 0);
        Check.opera(x, 6, 0, false, 1, 0, 1, 0, 0);
        x.chorus(6, 12);
        x.call(0, 0, 0, 0, 0);
        x.call(0, 0, 2, 1, 0);
        int[] calls = {x.call(0, 6, 1, 0, 0), x.call(0, 10, 2, 0, 0), x.call(0, 14, 3, 0, 0)};
        Check.same("first of the day", Check.times(x, 0, 6, calls[0], -1), 0);
        Check.same("six hours", Check.times(x, 0, 6, calls[1], -1), 0);
        Check.same("nine hours", Check.times(x, 0, 6, calls[2], -1), 1);
        Check.same("a room is none", Check.times(x, 0, 6, x.call(0, 18, 0, 0, 0), -1), 0);
        Check.same("an opera without one", Check.times(x, 0, 6, x.call(0, 18, 3, 1, 0), -1), 0);
        int a = x.call(6, 0, 1, 0, 0);
        int b = x.call(6, 5, 1, 0, 0);
        int c = x.call(7, 5, 1, 0, 0);
        Check.same("twelve hours in the week", Check.times(x, 0, 6, a, -1), 0);
        Check.same("fifteen", Check.times(x, 0, 6, b, -1), 1);
        Check.same("the week has gone on", Check.times(x, 0, 6, c, -1), 0);
        x.chorus(3, 9);
        Check.same("nine in the week, calls of other weeks do not count", Check.times(x, 0, 6, c, -1), 0);
        x.chorus(3, 8);
        Check.same("nine are more than eight", Check.times(x, 0, 6, c, -1), 1);
    }

    /** Kinds 7, 8, 10. */
    private static void roles() {
        OperaHouse x = new OperaHouse();
        Check.opera(x, 2, 0, false, 1, 0, 1, 0, 0, 5, 1, 5, 9);
        x.singer(1, 1, 0);
        x.singer(32, 32, 8);
        int c = x.call(0, 0, 0, 0, 0);
        Check.wrong("nobody", x, 0, 7, c, 0, 7, c, 1);
        x.cast(c, 0, 1, false);
        x.cast(c, 1, 0, false);
        Check.wrong("neither suits", x, 0, 8, c, 0, 8, c, 1);
        x.cast(c, 0, 0, false);
        x.cast(c, 1, 1, false);
        Check.wrong("both suit", x, 0);
        x.cast(c, 1, -1, false);
        Check.wrong("nobody again", x, 0, 7, c, 1);
        x.cast(c, 1, 1, false);
        x.ill(0, 0, 0);
        Check.contract(x, 1, "leave 1 to 2;leave 0 to 0;");
        Check.wrong("ill, on leave", x, 0, 10, c, 0, 10, c, 1);
        Check.contract(x, 1, "leave 1 to 29;");
        Check.wrong("not on leave", x, 0, 10, c, 0);
    }

    /** Kind 9. */
    private static void lessons() {
        OperaHouse x = house(8, 1);
        castCall(x, 0, 0, 0, 0, 0);
        castCall(x, 0, 10, 1, 0, 0);
        int night = castCall(x, 3, 10, 3, 0, 0);
        Check.same("five hours of eight", Check.times(x, 0, 9, night, 0), 1);
        castCall(x, 3, 8, 2, 0, 0);
        Check.same("a full that has not ended", Check.times(x, 0, 9, night, 0), 1);
        castCall(x, 3, 7, 2, 0, 0);
        Check.same("one that has", Check.times(x, 0, 9, night, 0), 0);
        OperaHouse y = house(8, 1);
        int n = castCall(y, 3, 10, 3, 0, 0);
        y.learn(0, 0, 0, 7);
        Check.same("seven learned", Check.times(y, 0, 9, n, 0), 1);
        y.learn(0, 0, 0, 1);
        Check.same("eight learned", Check.times(y, 0, 9, n, 0), 0);
        Check.same("a full needs none", Check.times(house(60, 1), 0, 9, 0, 0), 0);
    }

    /** Kind 11. */
    private static void twice() {
        OperaHouse x = new OperaHouse();
        Check.opera(x, 2, 0, false, 1, 0, 1, 0, 0, 0, 1, 0, 0, 0, 1, 0, 0);
        x.singer(1, 1, 0);
        x.singer(1, 1, 0);
        int c = x.call(0, 5, 0, 0, 0);
        x.cast(c, 0, 1, false);
        x.cast(c, 1, 0, false);
        x.cast(c, 2, 0, false);
        Check.wrong("the greater role", x, 0, 11, c, 2);
        x.cast(c, 0, 0, false);
        Check.wrong("both greater ones", x, 0, 11, c, 1, 11, c, 2);
        x.cast(c, 1, 1, false);
        x.cast(c, 2, -1, false);
        int d = x.call(0, 6, 0, 0, 0);
        x.cast(d, 0, 1, false);
        x.cast(d, 1, 0, false);
        Check.wrong("in a call that is on", x, 0, 7, c, 2, 7, d, 2, 11, d, 0, 11, d, 1);
        OperaHouse y = house(1, 1);
        castCall(y, 0, 5, 0, 0, 0);
        castCall(y, 0, 7, 0, 0, 0);
        Check.wrong("one that has ended", y, 0);
        OperaHouse z = house(1, 1);
        castCall(z, 0, 5, 1, 0, 0);
        castCall(z, 0, 5, 1, 0, 0);
        Check.wrong("at one hour the greater number", z, 0, 11, 1, 0);
    }

    /** Kind 12. */
    private static void rest() {
        OperaHouse x = house(1, 1);
        Check.contract(x, 0, "rest 20;");
        castCall(x, 0, 15, 2, 0, 0);
        int a = castCall(x, 1, 13, 0, 0, 0);
        int b = castCall(x, 1, 14, 1, 0, 0);
        Check.same("19 hours", Check.times(x, 0, 12, a, 0), 1);
        Check.same("20 hours", Check.times(x, 0, 12, b, 0), 0);
        castCall(x, 1, 10, 2, 0, 0);
        Check.same("the latest one is of this day now", Check.times(x, 0, 12, a, 0), 0);
        int first = castCall(x, 0, 20, 0, 0, 0);
        Check.same("of the same day", Check.times(x, 0, 12, first, 0), 0);
        OperaHouse y = house(1, 1);
        Check.contract(y, 0, "rest 72;");
        castCall(y, 0, 15, 1, 0, 0);
        castCall(y, 0, 20, 0, 0, 0);
        Check.same("marks and rooms need no rest", Check.times(y, 0, 12, castCall(y, 1, 0, 3, 0, 0), 0), 0);
        Check.same("71 hours", Check.times(y, 0, 12, castCall(y, 4, 2, 0, 0, 0), 0), 1);
        Check.same("72 hours", Check.times(y, 0, 12, castCall(y, 4, 3, 0, 0, 0), 0), 0);
        Check.contract(y, 0, "rest 0;");
        Check.same("rest 0", Check.times(y, 0, 12, 3, 0), 0);
    }

    /** Kind 13. */
    private static void longDays() {
        OperaHouse x = house(1, 1);
        Check.contract(x, 0, "day 3;");
        int c = castCall(x, 0, 10, 0, 0, 0);
        int b = castCall(x, 0, 6, 0, 0, 0);
        int a = castCall(x, 0, 2, 1, 0, 0);
        Check.same("three hours", Check.times(x, 0, 13, a, 0), 0);
        Check.same("five", Check.times(x, 0, 13, b, 0), 0);
        Check.same("seven are not more", Check.times(x, 0, 13, c, 0), 0);
        int d = castCall(x, 0, 22, 0, 0, 0);
        Check.same("nine are", Check.times(x, 0, 13, d, 0), 1);
        Check.same("not those ahead", Check.times(x, 0, 13, c, 0), 0);
        Check.same("another day", Check.times(x, 0, 13, castCall(x, 1, 0, 0, 0, 0), 0), 0);
        castCall(x, 1, 3, 1, 0, 0);
        Check.same("and seven of it", Check.times(x, 0, 13, castCall(x, 1, 9, 0, 0, 0), 0), 0);
        x.call(0, 0, 0, 0, 0);
        Check.contract(x, 0, "day 2;");
        Check.same("seven are more than six", Check.times(x, 0, 13, c, 0), 1);
    }

    /** Kind 14. */
    private static void weeks() {
        OperaHouse x = house(1, 1);
        Check.contract(x, 0, "week 2;");
        int a = castCall(x, 0, 0, 3, 0, 0);
        int b = castCall(x, 6, 0, 3, 0, 0);
        int full = castCall(x, 6, 10, 2, 0, 0);
        int c = castCall(x, 6, 20, 3, 0, 0);
        int d = castCall(x, 7, 20, 3, 0, 0);
        int e = castCall(x, 13, 20, 3, 0, 0);
        int[] calls = {a, b, full, c, d, e};
        int[] due = {0, 0, 0, 1, 1, 0};
        for (int k = 0; k < 6; k++) {
            Check.same("nights in a week, " + k, Check.times(x, 0, 14, calls[k], 0), due[k]);
        }
        Check.contract(x, 0, "week 0;");
        Check.same("not one", Check.times(x, 0, 14, a, 0), 1);
        Check.same("a full is no night", Check.times(x, 0, 14, full, 0), 0);
    }

    /** Kind 15: strain 10. */
    private static void voices() {
        OperaHouse x = house(1, 1);
        Check.contract(x, 0, "voice 26;");
        castCall(x, 0, 0, 3, 0, 0);
        int b = castCall(x, 0, 4, 2, 0, 0);
        int room = castCall(x, 0, 3, 0, 0, 0);
        Check.same("20, 16 and 10", Check.times(x, 0, 15, b, 0), 0);
        int c = castCall(x, 0, 13, 2, 0, 0);
        Check.same("17 and 10", Check.times(x, 0, 15, c, 0), 1);
        Check.same("still tired by a room of the same hour", Check.times(x, 0, 15, castCall(x, 0, 13, 0, 0, 0), 0), 1);
        Check.same("and less an hour later", Check.times(x, 0, 15, castCall(x, 0, 14, 0, 0, 0), 0), 0);
        Check.same("the room ahead", Check.times(x, 0, 15, room, 0), 0);
        OperaHouse y = house(1, 1);
        Check.contract(y, 0, "voice 15;");
        int first = castCall(y, 0, 0, 2, 0, 0);
        Check.same("one", Check.times(y, 0, 15, first, 0), 0);
        int second = castCall(y, 0, 0, 2, 0, 0);
        Check.same("two have begun", Check.times(y, 0, 15, first, 0), 1);
        Check.same("of both", Check.times(y, 0, 15, second, 0), 1);
        castCall(y, 1, 0, 2, 0, 0);
        castCall(y, 2, 0, 2, 0, 0);
        Check.same("on other days not", Check.times(y, 0, 15, 2, 0), 0);
        Check.same("the first of four", Check.times(y, 0, 15, first, 0), 1);
    }

    private static void asOf() {
        OperaHouse x = house(1, 1);
        int c = x.call(9, 0, 0, 0, 0);
        x.next(2);
        x.cast(c, 0, 0, false);
        x.next(2);
        x.ill(0, 9, 9);
        Check.wrong("nobody as of 1", x, 1, 7, c, 0);
        Check.wrong("cast as of 2", x, 2);
        Check.wrong("as of 3", x, 3);
        Check.wrong("ill as of 4", x, 4, 10, c, 0);
        Check.wrong("as of the most", x, Integer.MAX_VALUE, 10, c, 0);
        Check.wrong("as of the least", x, Integer.MIN_VALUE, 7, c, 0);
        int late = x.call(9, 5, 0, 0, 0);
        Check.wrong("calls are there for all days", x, -1, 7, c, 0, 7, late, 0);
    }
}
