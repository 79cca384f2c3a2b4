/** The edges of "Terms" 5 and promises 23 to 28: may, harm, instead, lay, laid, keep. */
public final class SteadEdgeTest {
    public static void main(String[] args) {
        eachKindJustSo();
        kindsThatDoNotMatter();
        laterCallsJustSo();
        notInTheCall();
        holdersAreNotOnes();
        harmOfACover();
        harmOfSizes();
        harmOfFees();
        harmOfTheFeeThen();
        leastHarmLeastNumber();
        anyCallAnyRole();
        asKnownToday();
        nightsOfEightRoles();
        daysOneBehindTheOther();
        fromTheFirstToTheLastDay();
        goingBackHelps();
        castOfTheLeastNumber();
        notHeldByEachKind();
        laidUntilTheNextLay();
        keptOnce();
        keepAsToldToday();
        Check.end();
    }

    /** An opera of two roles of strain 10, voice 0, tongue 0, size 5; 3 hours, need 1. */
    private static OperaHouse house(int singers) {
        OperaHouse x = new OperaHouse();
        Check.opera(x, 3, 0, false, 1, 0, 10, 0, 5, 0, 10, 0, 5);
        for (int s = 0; s < singers; s++) {
            x.singer(1, 1, 5);
        }
        return x;
    }

    private static OperaHouse told(String text) {
        OperaHouse x = house(1);
        Check.yes(text, Check.contract(x, 0, text) >= 0);
        return x;
    }

    private static void may(String what, OperaHouse x, int c, boolean due) {
        Check.same(what, x.may(0, c, 1) ? 1 : 0, due ? 1 : 0);
        Check.same(what + ", instead", x.instead(c, 1), due ? 0 : -1);
    }

    /** Kinds 10 to 15 of the call itself: the last number with which one may, and the first with which not. */
    private static void eachKindJustSo() {
        for (int less = 0; less < 2; less++) {
            boolean ok = less == 0;
            OperaHouse x = told("leave 0 to " + (8 - less) + ";leave " + (10 - less) + " to 29;");
            may("on leave from " + (10 - less), x, x.call(9, 5, 3, 0, 0), ok);
            x = told("rest " + (20 + less) + ";");
            Check.castCall(x, 8, 1, 2, 0, 0);
            may("20 hours of rest, " + (20 + less) + " told", x, x.call(9, 0, 3, 0, 0), ok);
            x = told("day " + (2 - less) + ";");
            Check.castCall(x, 9, 0, 1, 0, 0);
            may("six hours of " + (2 - less) + " and 4", x, x.call(9, 5, 3, 0, 0), ok);
            x = told("week " + (2 - less) + ";rest 0;");
            Check.castCall(x, 3, 0, 3, 0, 0);
            may("two nights of " + (2 - less), x, x.call(9, 0, 3, 0, 0), ok);
            x = told("voice " + (20 - less) + ";");
            may("20 of " + (20 - less), x, x.call(9, 0, 3, 0, 0), ok);
            x = told("");
            x.ill(0, 0, 8 + less);
            may("ill until " + (8 + less), x, x.call(9, 0, 3, 0, 0), ok);
            x = told("");
            Check.castCall(x, 9, 0, 1, 0, 0);
            may("a call ends then, or an hour later", x, x.call(9, 3 - less, 0, 0, 0), ok);
        }
        for (int size = 3; size <= 7; size++) {
            OperaHouse x = new OperaHouse();
            Check.opera(x, 3, 0, false, 1, 0, 1, 0, 5, 0, 1, 0, 5);
            x.singer(1, 1, size);
            may("size " + size + " for 5", x, x.call(9, 0, 0, 0, 0), size >= 4 && size <= 6);
        }
    }

    /** Kinds 1 to 7 and 9 do not matter. */
    private static void kindsThatDoNotMatter() {
        OperaHouse x = new OperaHouse();
        Check.write(x, 9, 0, 0, 0, 0, 1, 0, 0, 0, 1, 0, 0);
        x.opera(2, 3, true, 60);
        x.singer(1, 1, 0);
        x.chorus(0, 0);
        x.call(0, 0, 3, 0, 3);
        int c = x.call(0, 1, 3, 0, 3);
        Check.same("kinds 2, 3, 4, 6 and 7 twice of one, and 1 and 5 of the other, too", x.wrong(0), 6 + 8);
        may("not ready, and all but that", x, c, true);
        x.cast(c, 1, 0, false);
        Check.same("kind 9 for 7", x.wrong(0), 6 + 8);
        Check.same("not ready", Check.times(x, 0, 9, c, 1), 1);
    }

    /** What is wrong of one's later calls by it. */
    private static void laterCallsJustSo() {
        for (int less = 0; less < 2; less++) {
            boolean ok = less == 0;
            OperaHouse x = told("rest " + (20 + less) + ";");
            Check.castCall(x, 9, 0, 0, 0, 0);
            may("20 hours of rest behind it", x, x.call(8, 1, 3, 0, 0), ok);
            x = told("day " + (2 - less) + ";");
            Check.castCall(x, 9, 20, 1, 0, 0);
            may("six hours of the later one", x, x.call(9, 5, 3, 0, 0), ok);
            x = told("week " + (2 - less) + ";rest 0;");
            Check.castCall(x, 15, 0, 3, 0, 0);
            may("two nights of the later one", x, x.call(9, 0, 3, 0, 0), ok);
            x = told("voice " + (37 - less) + ";");
            Check.castCall(x, 9, 3, 3, 0, 0);
            may("20 less 3 and 20 of the later one", x, x.call(9, 0, 3, 0, 0), ok);
            x = told("");
            Check.castCall(x, 9, 3 - less, 0, 0, 0);
            may("it begins when that ends, or an hour ahead", x, x.call(9, 0, 3, 0, 0), ok);
        }
    }

    /** "if not CAST in it": in no role of it. */
    private static void notInTheCall() {
        OperaHouse x = house(2);
        int c = x.call(3, 0, 0, 0, 0);
        int d = x.call(3, 3, 0, 0, 0);
        x.cast(c, 0, 0, false);
        for (int r = 0; r < 2; r++) {
            Check.no("cast in role 0, role " + r, x.may(0, c, r));
            Check.same("harm there", x.harm(0, c, r), -1);
            Check.yes("the other one", x.may(1, c, r));
            Check.yes("another call", x.may(0, d, r));
        }
        x.cast(c, 0, 1, false);
        Check.yes("cast no more", x.may(0, c, 1));
        Check.same("harm again", x.harm(0, c, 1), 110);
    }

    /** What is wrong of the holder now is not one's own. */
    private static void holdersAreNotOnes() {
        OperaHouse x = house(2);
        x.ill(0, 3, 3);
        x.ill(1, 3, 3);
        int c = x.call(3, 0, 0, 0, 0);
        x.cast(c, 0, 0, false);
        Check.same("the holder is ill", Check.times(x, 0, 10, c, 0), 1);
        Check.no("so is the other one", x.may(1, c, 0));
        Check.same("nobody comes instead", x.instead(c, 0), -1);
        x.singer(1, 1, 5);
        Check.same("but who is well", x.instead(c, 0), 2);
    }

    /** "100, if one is not its COVER": of that role of that call. */
    private static void harmOfACover() {
        for (int role = 0; role < 2; role++) {
            for (int call = 0; call < 3; call++) {
                OperaHouse x = house(2);
                for (int c = 0; c < 3; c++) {
                    x.call(3, 5 * c, 0, 0, 0);
                }
                x.cast(call, role, 1, true);
                for (int c = 0; c < 3; c++) {
                    for (int r = 0; r < 2; r++) {
                        boolean covers = c == call && r == role;
                        Check.same("harm of the cover", x.harm(1, c, r), covers ? 10 : 110);
                        Check.same("harm of the other one", x.harm(0, c, r), 110);
                        Check.same("instead", x.instead(c, r), covers ? 1 : 0);
                    }
                }
                x.cast(call, role, -1, true);
                Check.same("a cover no more", x.harm(1, call, role), 110);
            }
        }
    }

    /** "3 for each by which the SIZES differ" */
    private static void harmOfSizes() {
        for (int role = 0; role < 10; role++) {
            for (int one = 0; one < 10; one++) {
                OperaHouse x = new OperaHouse();
                Check.opera(x, 2, 0, false, 1, 0, 1, 0, role);
                x.singer(1, 1, one);
                x.learn(0, 0, 0, 1);
                int c = x.call(0, 0, 0, 0, 0);
                Check.same("size " + one + " for " + role, x.harm(0, c, 0), 100 + 3 * Math.abs(one - role));
            }
        }
    }

    /** "by 100, cut" */
    private static void harmOfFees() {
        int[] fees = {0, 1, 99, 100, 101, 199, 200, 9999, 10000, 99999};
        for (int fee : fees) {
            OperaHouse x = told("fee " + fee + ";");
            x.learn(0, 0, 1, 1);
            Check.same("a fee of " + fee, x.harm(0, x.call(0, 0, 0, 0, 0), 1), 100 + fee / 100);
        }
        OperaHouse x = told("fee 50;fee 49;");
        Check.same("99 of two", x.harm(0, x.call(0, 0, 0, 0, 0), 1), 110);
        Check.contract(x, 0, "fee 50;fee 50;");
        Check.same("100 of two", x.harm(0, 0, 1), 111);
        Check.contract(x, 0, Check.repeat("fee 99999;", 8));
        Check.same("the dearest", x.harm(0, 0, 1), 110 + 7999);
    }

    /** "the FEE that one then had for it" */
    private static void harmOfTheFeeThen() {
        OperaHouse x = told("day 3;fee 100 if instead;fee 200 if nth=2;fee 400 if over=2;fee 800 if cover;");
        x.singer(1, 1, 5);
        Check.castCall(x, 1, 0, 3, 0, 0);
        Check.castCall(x, 9, 0, 0, 0, 0);
        int c = x.call(9, 5, 3, 0, 0);
        int base = 100 + 10;
        Check.same("nobody is there", x.harm(0, c, 1), base + 2 + 4);
        x.cast(c, 0, 1, false);
        Check.same("in another role somebody is", x.harm(0, c, 1), base + 2 + 4);
        x.cast(c, 1, 1, false);
        Check.same("somebody is there", x.harm(0, c, 1), base + 1 + 2 + 4);
        x.cast(c, 1, -1, false);
        Check.same("nobody is there again", x.harm(0, c, 1), base + 2 + 4);
        x.cast(c, 0, 0, true);
        Check.same("a cover of the other role", x.harm(0, c, 1), base + 2 + 4 + 8);
        x.cast(c, 1, 0, true);
        Check.same("the cover of it", x.harm(0, c, 1), 10 + 2 + 4 + 8);
        x.ill(0, 9, 9);
        Check.same("ill then", x.harm(0, c, 1), 10);
        Check.same("the fee as it is now", x.fee(0, c, 0), 0);
    }

    private static void leastHarmLeastNumber() {
        OperaHouse x = house(20);
        int c = x.call(3, 0, 3, 0, 0);
        for (int best = 19; best >= 0; best--) {
            x.cast(c, 1, best, true);
            Check.same("the cover", x.instead(c, 1), best);
        }
        x.cast(c, 1, -1, true);
        Check.same("all alike", x.instead(c, 1), 0);
        for (int s = 0; s < 20; s++) {
            Check.same("the first " + s + " are ill", x.instead(c, 1), s);
            x.ill(s, 3, 3);
        }
        Check.same("all are", x.instead(c, 1), -1);
        OperaHouse y = house(3);
        int d = y.call(3, 0, 3, 0, 0);
        Check.contract(y, 0, "fee 1000;");
        Check.contract(y, 1, "fee 999;");
        Check.contract(y, 2, "fee 998;");
        Check.same("10, 9 and 9", y.instead(d, 1), 1);
        Check.contract(y, 2, "fee 899;");
        Check.same("10, 9 and 8", y.instead(d, 1), 2);
        Check.contract(y, 0, "fee 800;");
        Check.same("8, 9 and 8", y.instead(d, 1), 0);
    }

    /** The same of each call and each role of four calls of eight roles. */
    private static void anyCallAnyRole() {
        for (int c = 0; c < 4; c++) {
            for (int r = 0; r < 8; r++) {
                OperaHouse x = new OperaHouse();
                int[] roles = new int[32];
                for (int k = 0; k < 8; k++) {
                    roles[4 * k] = k == r ? 1 : 0;
                    roles[4 * k + 1] = 1 + k;
                    roles[4 * k + 3] = k;
                }
                Check.opera(x, 2, 0, false, 9, roles);
                x.singer(3, 1, r);
                x.singer(2, 1, r);
                for (int k = 0; k < 4; k++) {
                    x.call(3 * k, 10, 2, 0, 0);
                }
                Check.contract(x, 1, "voice " + (r + 1) + ";");
                for (int k = 0; k < 8; k++) {
                    x.cast(c, k, k == r ? -1 : 0, false);
                    Check.same("suits role " + k + " alone", x.may(1, c, k) ? 1 : 0, k == r ? 1 : 0);
                    Check.same("harm of role " + k, x.harm(1, c, k), 100 + 90 + 3 * Math.abs(k - r));
                }
                Check.same("instead", x.instead(c, r), 1);
                Check.contract(x, 1, "voice " + Math.max(1, r) + ";");
                Check.same("too tired by it", x.may(1, c, r) ? 1 : 0, r == 0 ? 1 : 0);
                Check.same("nobody was cast by asking", x.who(c, r, false, 0), -1);
                Check.same("nothing more is cast", x.count(4), 8);
            }
        }
    }

    private static void asKnownToday() {
        OperaHouse x = house(1);
        int c = x.call(9, 0, 0, 0, 0);
        x.next(4);
        x.cast(c, 0, 0, false);
        Check.no("cast in it today", x.may(0, c, 1));
        x.who(c, 0, false, -1);
        x.wrong(-1);
        Check.no("also when it was asked as of another day", x.may(0, c, 1));
        Check.same("harm", x.harm(0, c, 1), -1);
        Check.same("instead", x.instead(c, 1), -1);
    }

    // ---- nights ----

    private static int lay(OperaHouse x, int first, int last, int hour, int... wishes) {
        Check.write(x, wishes);
        return x.lay(first, last, hour);
    }

    /** Opera o of one role and 2 hours, rehearsed on day 0, by singer o. */
    private static OperaHouse season(int operas) {
        OperaHouse x = Check.plainHouse(2, 1, operas, operas);
        for (int o = 0; o < operas; o++) {
            for (int kind = 0; kind < 3; kind++) {
                Check.castCall(x, 0, 7 * o + 2 * kind + (kind == 2 ? 1 : 0), kind, o, o);
            }
        }
        return x;
    }

    private static void nightsOfEightRoles() {
        OperaHouse x = new OperaHouse();
        int[] roles = new int[32];
        for (int r = 0; r < 8; r++) {
            roles[4 * r + 1] = 1;
        }
        Check.opera(x, 2, 0, false, 1, roles);
        for (int s = 0; s < 9; s++) {
            x.singer(1, 1, 0);
        }
        for (int kind = 0; kind < 3; kind++) {
            int c = x.call(0, 3 * kind, kind, 0, 0);
            for (int r = 0; r < 8; r++) {
                x.cast(c, r, 8 - r, false);
            }
        }
        Check.contract(x, 1, "leave 5 to 5;");
        Check.same("the eighth role's singer is away on the first day", lay(x, 5, 9, 20, 0, 0), 3);
        Check.same("kept", x.keep(), 5);
        Check.same("casts", x.count(4), 24 + 16);
        for (int r = 0; r < 8; r++) {
            Check.same("role " + r, x.who(3, r, false, 0), 8 - r);
            Check.same("role " + r, x.who(4, r, false, 0), 8 - r);
        }
        Check.wrong("all hold", x, 0);
        x.cast(0, 7, -1, false);
        Check.same("nobody in the eighth role", lay(x, 8, 9, 20, 0), 0);
    }

    private static void daysOneBehindTheOther() {
        for (int days = 1; days <= 7; days++) {
            for (int nights = 1; nights <= 6; nights++) {
                OperaHouse x = season(1);
                Check.contract(x, 0, "week 7;");
                int answer = lay(x, 10, 9 + days, 20, new int[nights]);
                boolean room = nights <= days;
                Check.same(nights + " nights in " + days + " days are laid", answer > 0 ? 1 : 0, room ? 1 : 0);
                for (int k = 0; k < nights; k++) {
                    Check.same("day of " + k, x.laid(k), room ? 10 + k : -1);
                }
            }
        }
    }

    private static void fromTheFirstToTheLastDay() {
        for (int day : new int[] {1, 2, 28, 29}) {
            OperaHouse x = season(1);
            Check.contract(x, 0, "rest 0;leave 0 to " + (day - 1) + ";" + (day < 29 ? "leave " + (day + 1) + " to 29;" : ""));
            Check.same("on the last day", lay(x, 1, day, 20, 0), day);
            Check.same("the last day", x.laid(0), day);
            Check.same("on the first day", lay(x, day, 29, 20, 0), 1);
            Check.same("the first day", x.laid(0), day);
            if (day > 1) {
                Check.same("a day too few", lay(x, 1, day - 1, 20, 0), 0);
            }
            if (day < 29) {
                Check.same("a day too late", lay(x, day + 1, 29, 20, 0), 0);
            }
            x.next(day);
            Check.same("today", lay(x, day, day, 22, 0), 1);
            Check.same("at the first hour", lay(x, day, day, 0, 0), 1);
        }
    }

    /**
     * "where none holds one goes back and tries the next DAY of the OPERA ahead", and then it holds: set 1 is at
     * stage at hour 8 of day 0, behind three free hours. Two free hours later, on day 1, set 2 can be, but from there
     * set 3 can't in four hours (two on day 2, where no night is, and two on day 3). If set 2 comes on day 2, the
     * wagons have had four hours to make ready, and two are enough for set 3 on day 3.
     */
    private static void goingBackHelps() {
        OperaHouse x = wagonsInNarrowHours();
        Check.same("1; 2, 3; 2; 3", lay(x, 1, 3, 22, 1, 2), 5);
        Check.same("not the first day that held", x.laid(0), 2);
        Check.same("the day behind it", x.laid(1), 3);
        Check.same("kept", x.keep(), 36);
        Check.same("the sets were there", Check.times(x, 0, 2, 34, -1) + Check.times(x, 0, 2, 35, -1), 0);
        x = wagonsInNarrowHours();
        Check.same("1; 2; 2, but there is no day behind day 2", lay(x, 1, 2, 22, 1, 2), 0);
        x = wagonsInNarrowHours();
        Check.same("day 1 alone", lay(x, 1, 1, 22, 1), 1);
    }

    private static OperaHouse wagonsInNarrowHours() {
        OperaHouse x = new OperaHouse();
        for (int o = 0; o < 3; o++) {
            Check.opera(x, 2, o + 1, false, 1, 0, 1, 0, 0);
            x.singer(1, 1, 0);
            x.learn(o, o, 0, 1);
        }
        for (int o = 1; o < 3; o++) {
            Check.castCall(x, 0, 0, 0, o, o);
            x.call(0, 2, 1, o, 0);
            x.call(0, 5, 2, o, 0);
        }
        x.call(0, 8, 2, 0, 0);
        int[][] marks = {{10, 13, 16, 19, 21}, {0, 3, 6, 9, 12, 15, 17}, {0, 3, 6, 9, 12, 15, 18, 19},
            {0, 3, 6, 9, 12, 15, 17}};
        for (int day = 0; day < 4; day++) {
            for (int hour : marks[day]) {
                x.call(day, hour, 1, 0, 0);
            }
        }
        return x;
    }

    /** "each with the CAST of the CALL of its OPERA with the least number" */
    private static void castOfTheLeastNumber() {
        OperaHouse x = Check.plainHouse(2, 1, 2, 3);
        int other = Check.castCall(x, 0, 0, 0, 1, 2);
        int least = Check.castCall(x, 8, 0, 3, 0, 1);
        for (int kind = 0; kind < 3; kind++) {
            Check.castCall(x, 0, 5 + 4 * kind, kind, 0, 0);
        }
        x.learn(1, 0, 0, 1);
        Check.same("laid", lay(x, 10, 12, 20, 0), 1);
        Check.same("kept", x.keep(), 6);
        Check.same("the singer of the least number", x.who(5, 0, false, 0), 1);
        x.cast(least, 0, 2, false);
        x.learn(2, 0, 0, 1);
        x.cast(other, 0, 0, false);
        Check.same("laid", lay(x, 13, 15, 20, 0), 1);
        Check.same("kept", x.keep(), 7);
        Check.same("who is there today", x.who(6, 0, false, 0), 2);
        x.cast(least, 0, -1, false);
        Check.same("nobody is there", lay(x, 16, 29, 20, 0), 0);
    }

    /** Each kind in turn is what keeps a night from its first day. */
    private static void notHeldByEachKind() {
        OperaHouse x = season(1);
        x.call(5, 19, 1, 0, 0);
        Check.same("1: marks are on", lay(x, 5, 6, 20, 0), 2);
        x = season(1);
        Check.opera(x, 2, 1, false, 1, 0, 1, 0, 0);
        x.call(5, 17, 2, 1, 0);
        Check.same("2: another set was at stage an hour ago", lay(x, 5, 6, 20, 0), 2);
        x = Check.plainHouse(2, 1, 1, 1);
        x.learn(0, 0, 0, 1);
        for (int kind = 0; kind < 3; kind++) {
            Check.castCall(x, 5, 3 * kind + 12, kind, 0, 0);
        }
        Check.same("3: the full ends behind it on day 5", lay(x, 5, 6, 19, 0), 2);
        notHeldOnAnyDay();
        x = season(1);
        x.call(5, 19, 0, 0, 2);
        Check.same("5: a half is playing", lay(x, 5, 6, 20, 0), 2);
        x = new OperaHouse();
        Check.opera(x, 2, 0, true, 1, 0, 1, 0, 0);
        x.singer(1, 1, 0);
        for (int kind = 0; kind < 3; kind++) {
            Check.castCall(x, kind, 0, kind, 0, 0);
        }
        x.chorus(4, 6);
        x.call(8, 0, 1, 0, 0);
        Check.same("6: three and two hours in a week of six, and two of day 2", lay(x, 8, 9, 20, 0), 2);
        x.chorus(3, 168);
        Check.same("6: three and two hours of three a day", lay(x, 8, 9, 20, 0), 2);
        x = season(1);
        x.learn(0, 0, 0, 1);
        x.ill(0, 5, 5);
        Check.same("10: ill", lay(x, 5, 6, 20, 0), 2);
        x = season(1);
        Check.castCall(x, 5, 19, 0, 0, 0);
        Check.same("11: in another call", lay(x, 5, 6, 20, 0), 2);
        x = season(1);
        Check.contract(x, 0, "rest 20;");
        Check.castCall(x, 4, 22, 2, 0, 0);
        Check.same("12: an hour less than rest", lay(x, 5, 6, 19, 0), 2);
        x = season(1);
        Check.contract(x, 0, "day 1;");
        Check.castCall(x, 5, 0, 0, 0, 0);
        Check.castCall(x, 5, 5, 0, 0, 0);
        Check.same("13: six hours of five", lay(x, 5, 6, 20, 0), 2);
        x = season(1);
        Check.contract(x, 0, "week 1;");
        Check.castCall(x, 2, 0, 3, 0, 0);
        Check.same("14: two nights in a week", lay(x, 8, 9, 20, 0), 2);
        x = season(1);
        Check.contract(x, 0, "voice 2;");
        Check.castCall(x, 5, 19, 2, 0, 0);
        x.cast(3, 0, -1, false);
        Check.same("15: just as tired as told", lay(x, 6, 6, 20, 0), 1);
        Check.contract(x, 0, "voice 1;");
        Check.same("15: more tired than told", lay(x, 6, 6, 20, 0), 0);
    }

    /** Kinds 4, 7, 8 and 9 are so on all days, and then there is no way. */
    private static void notHeldOnAnyDay() {
        for (int seats = 9; seats <= 10; seats++) {
            OperaHouse x = new OperaHouse();
            Check.write(x, 0, 0, 0, seats, 0, 1, 0, 0);
            x.opera(2, 0, false, 1);
            x.singer(1, 1, 0);
            x.players(3, 4, 5);
            for (int kind = 0; kind < 3; kind++) {
                Check.castCall(x, kind, 0, kind, 0, 0);
            }
            Check.same("4: nine players of " + seats, lay(x, 5, 6, 20, 0), seats == 9 ? 1 : 0);
        }
        OperaHouse x = season(1);
        x.cast(0, 0, -1, false);
        Check.same("7: nobody is cast", lay(x, 5, 6, 20, 0), 0);
        x = season(1);
        x.singer(2, 1, 0);
        x.cast(0, 0, 1, false);
        x.learn(1, 0, 0, 99);
        Check.same("8: one who does not suit is cast", lay(x, 5, 6, 20, 0), 0);
        for (int learned = 52; learned <= 53; learned++) {
            x = Check.plainHouse(2, 60, 1, 1);
            for (int kind = 0; kind < 3; kind++) {
                Check.castCall(x, kind, 0, kind, 0, 0);
            }
            x.learn(0, 0, 0, learned);
            Check.same("9: seven hours and " + learned + " of 60", lay(x, 5, 6, 20, 0), learned == 53 ? 1 : 0);
        }
    }

    private static void laidUntilTheNextLay() {
        OperaHouse x = season(1);
        Check.same("laid", lay(x, 3, 9, 20, 0, 0), 2);
        x.next(1);
        x.cast(0, 0, -1, false);
        Check.contract(x, 0, "leave 0 to 29;");
        Check.same("the first night stays laid", x.laid(0), 3);
        Check.same("the second one", x.laid(1), 4);
        Check.same("not told", lay(x, 3, 9, 20), -1);
        Check.same("none laid", x.laid(0), -1);
        Check.same("no way", lay(x, 3, 9, 20, 0), 0);
        Check.same("none laid", x.laid(0), -1);
        Check.contract(x, 0, "");
        x.next(0);
        OperaHouse y = season(1);
        Check.same("laid", lay(y, 3, 9, 20, 0, 0, 0), 3);
        Check.same("laid anew", lay(y, 5, 9, 20, 0), 1);
        Check.same("the new one", y.laid(0), 5);
        Check.same("none of the old ones", y.laid(1), -1);
        Check.same("kept", y.keep(), 4);
        Check.same("the new one alone", y.count(4), 4);
    }

    private static void keptOnce() {
        OperaHouse x = season(1);
        Check.same("ahead of any", x.keep(), -1);
        lay(x, 3, 9, 20, 0);
        Check.same("kept", x.keep(), 4);
        Check.same("twice", x.keep(), -1);
        Check.same("four calls", x.count(3), 4);
        lay(x, 3, 9, 20, 0);
        x.next(0);
        Check.same("the day was told", x.keep(), -1);
        lay(x, 3, 9, 20, 0);
        x.end(0);
        Check.same("the tape was told", x.keep(), -1);
        lay(x, 3, 9, 20, 0);
        x.feed(0, 0, 0, 0, 0);
        Check.same("the tape was fed", x.keep(), -1);
        x.end(0);
        lay(x, 3, 9, 20, 0);
        x.wrong(0);
        x.next(30);
        x.end(1);
        x.cast(0, 0, 7, false);
        Check.same("nothing was told", x.keep(), 5);
    }

    /** "their CASTS told TODAY" */
    private static void keepAsToldToday() {
        OperaHouse x = season(1);
        x.next(7);
        lay(x, 7, 9, 20, 0);
        x.keep();
        for (int t = -1; t < 10; t++) {
            Check.same("known as of " + t, x.who(3, 0, false, t), t >= 7 ? 0 : -1);
            Check.same("vacant as of " + t, Check.times(x, t, 7, 3, 0), t >= 7 ? 0 : 1);
        }
        Check.same("it has no cover", x.who(3, 0, true, 29), -1);
        Check.same("it is a night", x.tired(0, 3, 29), 2);
        Check.same("of two hours", Check.contract(x, 0, "fee 3 if hours=2 and night and not late;"), 1);
        Check.same("its fee", x.fee(0, 3, 29), 3);
    }
}
