/** The edges of "Terms" 1, 3, 4 and 5: each last value that is so, and the first that is not. */
public final class TermsTest {
    public static void main(String[] args) {
        theOrder();
        suits();
        knownAsOf();
        illFromTo();
        leavesFromTo();
        severalLeaves();
        endedByThen();
        strains();
        tiredDownToNothing();
        howLongTheWagonsTake();
        whatHoldsTheWagons();
        marksNeedNoSet();
        wagonsBehindMarksThatOverlap();
        crowdedByBoth();
        whatIsOn();
        preparedInTime();
        enoughPlayers();
        chorusWeek();
        vacantOnes();
        readyInTime();
        restInTime();
        hoursOfADay();
        nightsOfAWeek();
        tooTired();
        allKindsOfACall();
        allKindsOfARole();
        Check.end();
    }

    private static final int STRAIN = 10;

    /** One role of strain 10; calls of 3 hours; sets 0 to 3 by the opera's number. */
    private static OperaHouse house(int need, int singers) {
        OperaHouse x = new OperaHouse();
        for (int o = 0; o < 4; o++) {
            Check.opera(x, 3, o, false, need, 0, STRAIN, 0, 0);
        }
        for (int s = 0; s < singers; s++) {
            x.singer(1, 1, 0);
        }
        return x;
    }

    private static void is(String what, OperaHouse x, int kind, int c, boolean due) {
        Check.same(what, Check.times(x, 29, kind, c, kind < 7 ? -1 : 0), due ? 1 : 0);
    }

    /** "THE ORDER of CALLS: by their beginning, then by number." */
    private static void theOrder() {
        int[][] begins = {{1, 0}, {0, 21}, {0, 0}, {29, 21}, {1, 0}, {0, 21}, {0, 1}};
        int[] order = {2, 6, 1, 5, 0, 4, 3};
        OperaHouse x = house(1, 1);
        for (int[] b : begins) {
            x.call(b[0], b[1], 0, 0, 0);
        }
        Check.same("vacant ones", x.wrong(0), 7);
        for (int k = 0; k < 7; k++) {
            Check.same("in the order, " + k, x.told(k, 1), order[k]);
        }
        Check.contract(x, 0, "fee 1 if nth=1;fee 2 if nth=2;fee 3 if nth=3;fee 4 if nth=4;fee 5 if nth=5;"
                + "fee 6 if nth=6;fee 7 if nth=7;");
        OperaHouse y = house(1, 1);
        Check.contract(y, 0, "fee 1 if nth=1;fee 2 if nth=2;fee 3 if nth=3;fee 4 if nth=4;fee 5 if nth=5;"
                + "fee 6 if nth=6;fee 7 if nth=7;");
        for (int[] b : begins) {
            Check.castCall(y, b[0], b[1], 3, 0, 0);
        }
        for (int k = 0; k < 7; k++) {
            Check.same("the nights one by one, " + k, y.fee(0, order[k], 0), k + 1);
        }
    }

    /** "One SUITS a ROLE, if one has its VOICE and its TONGUE, and the SIZES differ by 1 at most." */
    private static void suits() {
        for (int v = 0; v < 6; v++) {
            for (int w = 0; w < 6; w++) {
                Check.same("voice " + v + ", tongue " + w, wrongBySuit(v, w, 5, 1 << v, 1 << w, 5), 0);
                Check.same("all voices but " + v, wrongBySuit(v, w, 5, 63 - (1 << v), 63, 5), 1);
                Check.same("all tongues but " + w, wrongBySuit(v, w, 5, 63, 63 - (1 << w), 5), 1);
            }
        }
        for (int role = 0; role < 10; role++) {
            for (int one = 0; one < 10; one++) {
                boolean near = one - role >= -1 && one - role <= 1;
                Check.same("size " + one + " for " + role, wrongBySuit(0, 0, role, 1, 1, one), near ? 0 : 1);
            }
        }
        Check.same("no voices", wrongBySuit(0, 0, 0, 0, 63, 0), 1);
        Check.same("no tongues", wrongBySuit(0, 0, 0, 63, 0, 0), 1);
    }

    private static int wrongBySuit(int voice, int tongue, int size, int voices, int tongues, int ones) {
        OperaHouse x = new OperaHouse();
        Check.opera(x, 2, 0, false, 1, voice, 1, tongue, size);
        x.singer(voices, tongues, ones);
        int c = x.call(0, 0, 0, 0, 0);
        boolean may = x.may(0, c, 0);
        x.cast(c, 0, 0, false);
        int times = Check.times(x, 0, 8, c, 0);
        Check.same("who suits may", may ? 0 : 1, times);
        return times;
    }

    /** "what was told on t or ahead (below 0: nothing)" */
    private static void knownAsOf() {
        for (int day : new int[] {0, 1, 14, 29}) {
            OperaHouse x = house(1, 2);
            int c = x.call(29, 10, 2, 0, 0);
            Check.contract(x, 0, "fee 5;");
            x.next(day);
            x.cast(c, 0, 0, false);
            x.cast(c, 0, 1, true);
            x.learn(0, 0, 0, 7);
            x.ill(1, 29, 29);
            for (int t : new int[] {Integer.MIN_VALUE, -2, -1, 0, day - 1, day, day + 1, 29, 30, Integer.MAX_VALUE}) {
                boolean known = t >= day;
                Check.same("cast as of " + t, x.who(c, 0, false, t), known ? 0 : -1);
                Check.same("cover as of " + t, x.who(c, 0, true, t), known ? 1 : -1);
                Check.same("learned as of " + t, x.learned(0, c, 0, t), known ? 7 : 0);
                Check.same("tired as of " + t, x.tired(0, c, t), known ? STRAIN : 0);
                Check.same("fee as of " + t, x.fee(0, c, t), known ? 5 : 0);
                Check.same("pay as of " + t, x.pay(0, 29, t), known ? 5 : 0);
                Check.same("vacant as of " + t, Check.times(x, t, 7, c, 0), known ? 0 : 1);
            }
            x.cast(c, 0, 1, false);
            Check.same("ill as of " + day, Check.times(x, day, 10, c, 0), 1);
        }
    }

    /** "from a DAY to another one (both with it)" */
    private static void illFromTo() {
        int[][] spans = {{0, 0}, {0, 29}, {29, 29}, {3, 5}, {7, 7}};
        for (int[] span : spans) {
            OperaHouse x = house(1, 1);
            Check.contract(x, 0, "fee 3;");
            for (int day = 0; day < 30; day++) {
                Check.castCall(x, day, 0, 0, 0, 0);
            }
            x.ill(0, span[0], span[1]);
            int[][] all = Check.wrongs(x, 0);
            for (int day = 0; day < 30; day++) {
                boolean ill = day >= span[0] && day <= span[1];
                Check.same("ill " + span[0] + " to " + span[1] + " on " + day, Check.times(all, 10, day, 0), ill ? 1 : 0);
                Check.same("fee on " + day, x.fee(0, day, 0), ill ? 0 : 3);
            }
            Check.same("all fees", x.pay(0, 29, 0), 3 * (29 - span[1] + span[0]));
        }
    }

    private static void leavesFromTo() {
        int[][] spans = {{0, 0}, {0, 29}, {29, 29}, {3, 5}, {7, 7}};
        for (int[] span : spans) {
            OperaHouse x = house(1, 1);
            Check.contract(x, 0, "leave " + span[0] + " to " + span[1] + ";fee 3;");
            for (int day = 0; day < 30; day++) {
                Check.castCall(x, day, 0, 0, 0, 0);
            }
            int[][] all = Check.wrongs(x, 0);
            for (int day = 0; day < 30; day++) {
                boolean away = day >= span[0] && day <= span[1];
                Check.same("leave " + span[0] + " to " + span[1] + ", " + day, Check.times(all, 10, day, 0), away ? 1 : 0);
            }
            Check.same("fees on leave, too", x.pay(0, 29, 0), 90);
        }
    }

    private static void severalLeaves() {
        OperaHouse x = house(1, 1);
        Check.contract(x, 0, "leave 1 to 2;leave 5 to 5;leave 4 to 5;leave 9 to 9;leave 29 to 29;leave 7 to 7;");
        x.ill(0, 12, 12);
        x.ill(0, 14, 15);
        x.ill(0, 14, 14);
        for (int day = 0; day < 30; day++) {
            Check.castCall(x, day, 0, 0, 0, 0);
        }
        StringBuilder away = new StringBuilder();
        int[][] all = Check.wrongs(x, 0);
        for (int day = 0; day < 30; day++) {
            away.append(Check.times(all, 10, day, 0) == 1 ? day + " " : "");
        }
        Check.yes("away on " + away, away.toString().equals("1 2 4 5 7 9 12 14 15 29 "));
    }

    /** "the HOURS of one's CALLS of KINDS 0 to 2 in that ROLE that ended by then" */
    private static void endedByThen() {
        int[] hours = {2, 3, 3, 3};
        for (int kind = 0; kind < 4; kind++) {
            for (int gap = -1; gap <= 1; gap++) {
                OperaHouse x = house(1, 1);
                int night = Check.castCall(x, 5, 10, 3, 0, 0);
                Check.castCall(x, 5, 10 - hours[kind] - gap, kind, 0, 0);
                int due = kind < 3 && gap >= 0 ? hours[kind] : 0;
                Check.same("kind " + kind + ", " + gap + " hours ahead", x.learned(0, night, 0, 0), due);
                Check.same("ready", Check.times(x, 0, 9, night, 0), due > 0 ? 0 : 1);
            }
        }
        OperaHouse x = house(1, 1);
        int first = Check.castCall(x, 0, 0, 2, 0, 0);
        int last = Check.castCall(x, 29, 21, 3, 0, 0);
        Check.castCall(x, 28, 22, 0, 0, 0);
        Check.castCall(x, 29, 19, 0, 0, 0);
        Check.castCall(x, 29, 20, 0, 0, 0);
        Check.same("nothing ahead of the first hour", x.learned(0, first, 0, 0), 0);
        Check.same("by the last night", x.learned(0, last, 0, 0), 3 + 2 + 2);
    }

    /** "by STRAIN of one's ROLES in it, twice for a NIGHT, once for FULL, not for others" */
    private static void strains() {
        int[] times = {0, 0, 1, 2};
        for (int strain : new int[] {1, 2, 29, 30}) {
            for (int kind = 0; kind < 4; kind++) {
                OperaHouse x = new OperaHouse();
                Check.opera(x, 2, 0, false, 1, 0, strain, 0, 0, 0, 30, 0, 0);
                x.singer(1, 1, 0);
                int c = x.call(0, 0, kind, 0, 0);
                Check.same("not cast", x.tired(0, c, 0), 0);
                x.cast(c, 0, 0, false);
                Check.same("strain " + strain + ", kind " + kind, x.tired(0, c, 0), times[kind] * strain);
                x.cast(c, 1, 0, false);
                Check.same("and 30 of another role", x.tired(0, c, 0), times[kind] * (strain + 30));
            }
        }
    }

    /** "less by 1 each HOUR (0 at least)" */
    private static void tiredDownToNothing() {
        for (int gap = STRAIN - 2; gap <= STRAIN + 2; gap++) {
            OperaHouse x = house(1, 1);
            Check.castCall(x, 4, 5, 2, 0, 0);
            int asked = x.call(4, 5 + gap, 0, 0, 0);
            Check.same(gap + " hours later", x.tired(0, asked, 0), Math.max(0, STRAIN - gap));
            x.cast(asked, 0, 0, false);
            Check.same(gap + " hours later, cast", x.tired(0, asked, 0), Math.max(0, STRAIN - gap));
            int full = Check.castCall(x, 4, 5 + gap, 2, 0, 0);
            Check.same(gap + " hours later, of a full", x.tired(0, full, 0), Math.max(0, STRAIN - gap) + STRAIN);
        }
        OperaHouse x = house(1, 1);
        int ahead = x.call(4, 4, 0, 0, 0);
        Check.castCall(x, 4, 5, 3, 0, 0);
        int day = Check.castCall(x, 5, 5, 2, 0, 0);
        Check.same("an hour ahead of it", x.tired(0, ahead, 0), 0);
        Check.same("rest does not make less than nothing", x.tired(0, day, 0), STRAIN);
        int first = Check.castCall(x, 0, 0, 2, 0, 0);
        Check.same("in the first hour", x.tired(0, first, 0), STRAIN);
        int last = Check.castCall(x, 29, 21, 3, 0, 0);
        Check.same("in the last hours", x.tired(0, last, 0), 2 * STRAIN);
    }

    /** "A MOVE takes an HOUR in which no CALL of KINDS 1 to 3 is on": from set 0 to any other one three. */
    private static void howLongTheWagonsTake() {
        for (int set = 0; set < 4; set++) {
            int needed = set == 0 ? 0 : 3;
            for (int hour = 0; hour < 5; hour++) {
                OperaHouse x = house(1, 1);
                int c = x.call(0, hour, 2, set, 0);
                is("set " + set + " at hour " + hour, x, 2, c, hour < needed);
                Check.same("so many moves", x.moves(set, hour), hour < needed ? -1 : needed);
                for (int kind = 0; kind < 4; kind++) {
                    OperaHouse y = house(1, 1);
                    y.call(0, 0, kind, 0, 0);
                    int d = y.call(0, (kind == 0 ? 0 : 3) + hour, 3, set, 0);
                    is("set " + set + ", " + hour + " hours behind kind " + kind, y, 2, d, hour < needed);
                }
            }
        }
    }

    private static void whatHoldsTheWagons() {
        for (int kind = 0; kind < 4; kind++) {
            for (int hour = 1; hour < 5; hour++) {
                OperaHouse x = house(1, 1);
                // one call between, which is on in three of the hours ahead, if it is no room
                int c = x.call(0, hour + 3, 2, 1, 0);
                x.call(0, 1, kind, 0, 0);
                is("kind " + kind + " within " + (hour + 3) + " hours", x, 2, c, kind != 0 && hour < 3);
            }
        }
        OperaHouse x = house(1, 1);
        int rooms = x.call(0, 3, 2, 1, 0);
        for (int k = 0; k < 3; k++) {
            x.call(0, 0, 0, 0, 3);
            x.call(0, 1, 0, 2, 3);
        }
        is("rooms in all three hours", x, 2, rooms, false);
        x.call(0, 2, 1, 3, 0);
        is("marks in the last of them", x, 2, rooms, true);
    }

    /** Kind 2 is of FULL and NIGHT: marks need no set, and bind none. */
    private static void marksNeedNoSet() {
        for (int set = 0; set < 4; set++) {
            OperaHouse x = house(1, 1);
            int first = x.call(0, 0, 1, set, 0);
            int room = x.call(0, 0, 0, set, 0);
            int full = x.call(0, 3, 2, 0, 0);
            is("marks in the first hour, set " + set, x, 2, first, false);
            is("a room in the first hour, set " + set, x, 2, room, false);
            is("a full behind them, set 0", x, 2, full, false);
            OperaHouse y = house(1, 1);
            int later = y.call(0, 3, 1, set, 0);
            int soon = y.call(0, 6, 3, 0, 0);
            is("marks in the fourth hour, set " + set, y, 2, later, false);
            is("a night behind them, set 0", y, 2, soon, false);
        }
    }

    /** Hours in which two calls are on are hours once. */
    private static void wagonsBehindMarksThatOverlap() {
        for (int hour = 7; hour < 10; hour++) {
            OperaHouse x = house(1, 1);
            x.call(0, 1, 1, 0, 0);
            x.call(0, 2, 1, 0, 0);
            int c = x.call(0, hour, 2, 2, 0);
            // hours 0, 5, 6 and so on are free
            is("marks from 1 to 5, full at " + hour, x, 2, c, false);
            x.call(0, 0, 1, 0, 0);
            is("marks from 0 to 5, full at " + hour, x, 2, c, hour < 8);
            x.call(0, 1, 1, 0, 0);
            is("one within another", x, 2, c, hour < 8);
        }
        // a long one with a short one within it: the hours behind the short one are not free
        OperaHouse y = new OperaHouse();
        Check.opera(y, 6, 0, false, 1, 0, 1, 0, 0);
        Check.opera(y, 2, 1, false, 1, 0, 1, 0, 0);
        y.call(0, 0, 2, 0, 0);
        y.call(0, 1, 1, 0, 0);
        int early = y.call(0, 7, 2, 1, 0);
        is("an hour behind a long one", y, 2, early, true);
        int soon = y.call(0, 12, 2, 1, 0);
        is("three more", y, 2, soon, false);
        for (int hour = 8; hour <= 9; hour++) {
            OperaHouse z = new OperaHouse();
            Check.opera(z, 6, 0, false, 1, 0, 1, 0, 0);
            Check.opera(z, 2, 1, false, 1, 0, 1, 0, 0);
            z.call(0, 0, 2, 0, 0);
            z.call(0, 1, 1, 0, 0);
            z.call(0, 2, 1, 0, 0);
            is("free from hour 6 on, a set that needs three", z, 2, z.call(0, hour, 2, 1, 0), hour < 9);
        }
    }

    /** Kind 1: "(but two MARKS may be on at once, not three)" */
    private static void crowdedByBoth() {
        int[][] on = {{1}, {2}, {3}, {1, 1}, {1, 2}, {2, 1}, {3, 1}, {1, 3}, {2, 2}, {1, 1, 1}, {2, 1, 1}, {0}, {0, 1}, {0, 0, 0}};
        for (int[] kinds : on) {
            for (int kind = 0; kind < 4; kind++) {
                OperaHouse x = house(1, 1);
                int marks = 0;
                int others = 0;
                for (int k : kinds) {
                    x.call(0, 5, k, 0, 0);
                    marks += k == 1 ? 1 : 0;
                    others += k > 1 ? 1 : 0;
                }
                int c = x.call(0, 6, kind, 0, 0);
                boolean due = kind == 1 && others + marks / 2 > 0 || kind > 1 && others + marks > 0;
                is("kind " + kind + " on " + java.util.Arrays.toString(kinds), x, 1, c, due);
            }
        }
    }

    /** "(on: it has begun and not yet ended)": kinds 1, 5 and 11 with each kind ahead, to its last hour. */
    private static void whatIsOn() {
        int[] hours = {2, 3, 5, 5};
        for (int kind = 0; kind < 4; kind++) {
            for (int gap = 0; gap < 7; gap++) {
                OperaHouse x = new OperaHouse();
                Check.opera(x, 5, 0, false, 1, 0, 1, 0, 0);
                x.singer(1, 1, 0);
                int first = x.call(3, 10, kind, 0, 1);
                x.cast(first, 0, 0, false);
                int c = x.call(3, 10 + gap, 2, 0, 1);
                x.cast(c, 0, 0, false);
                boolean isOn = gap < hours[kind];
                is("stage, " + gap + " hours behind kind " + kind, x, 1, c, isOn && kind > 0);
                is("halves, " + gap + " hours behind kind " + kind, x, 5, c, isOn);
                is("twice, " + gap + " hours behind kind " + kind, x, 11, c, isOn);
                is("the one ahead, stage", x, 1, first, false);
                is("the one ahead, halves", x, 5, first, false);
                is("the one ahead, twice", x, 11, first, false);
            }
        }
        OperaHouse x = house(1, 1);
        Check.castCall(x, 3, 21, 3, 0, 0);
        int next = Check.castCall(x, 4, 0, 2, 0, 0);
        is("ended at 24", x, 1, next, false);
        is("ended at 24", x, 11, next, false);
        // one that began first is on yet when one that began later has ended
        OperaHouse y = new OperaHouse();
        Check.opera(y, 6, 0, false, 1, 0, 1, 0, 0);
        y.singer(1, 1, 0);
        int[] all = {y.call(3, 10, 2, 0, 1), y.call(3, 11, 0, 0, 2), y.call(3, 14, 1, 0, 1), y.call(3, 17, 0, 0, 1)};
        for (int c : all) {
            y.cast(c, 0, 0, false);
        }
        is("a long one is on, a short one has ended", y, 1, all[2], true);
        is("a long one is on, a short one has ended", y, 5, all[2], true);
        is("a long one is on, a short one has ended", y, 11, all[2], true);
        is("all have ended", y, 5, all[3], false);
        is("all have ended", y, 11, all[3], false);
    }

    /** Kind 3: an hour less in each of three places. */
    private static void preparedInTime() {
        for (int less = -1; less < 4; less++) {
            OperaHouse x = house(1, 1);
            int room = 0;
            int marks = 2 - (less == 0 ? 1 : 0);
            int full = 5 - (less == 1 ? 1 : 0);
            int night = 8 - (less == 2 ? 1 : 0);
            if (less == 0) {
                full--;
                night--;
            }
            if (less == 1) {
                night--;
            }
            x.call(0, room, 0, 0, 0);
            x.call(0, marks, 1, 0, 0);
            x.call(0, full, 2, 0, 0);
            int c = x.call(0, night, 3, 0, 0);
            is("without " + less, x, 3, c, less >= 0 && less < 3);
            for (int kind = 0; kind < 3; kind++) {
                OperaHouse y = house(1, 1);
                for (int k = 0; k < 3; k++) {
                    y.call(0, 3 * k, k, k == kind && less == 3 ? 1 : 0, 0);
                }
                is("kind " + kind + " of another opera", y, 3, y.call(0, 10, 3, 0, 0), less == 3);
            }
        }
        for (int o = 0; o < 4; o++) {
            for (int missing = 0; missing < 4; missing++) {
                OperaHouse x = house(1, 1);
                for (int k = 0; k < 3; k++) {
                    if (k != missing) {
                        x.call(0, 3 * k, k, o, 0);
                    }
                    for (int other = 1; other < 4; other++) {
                        x.call(0, 3 * k, k, (o + other) % 4, 0);
                    }
                }
                is("opera " + o + " without " + missing, x, 3, x.call(0, 10, 3, o, 0), missing < 3);
            }
        }
        OperaHouse x = house(1, 1);
        int night = x.call(0, 0, 3, 0, 0);
        is("in the first hour", x, 3, night, true);
        x.call(0, 3, 0, 0, 0);
        x.call(0, 5, 1, 0, 0);
        x.call(0, 8, 2, 0, 0);
        is("all behind it", x, 3, night, true);
        is("a night behind all", x, 3, x.call(0, 11, 3, 0, 0), false);
        severalOfAKind();
    }

    /** The first of several that ended counts, whatever their numbers: an hour less, and it has not ended. */
    private static void severalOfAKind() {
        int[][] orders = {{0, 1, 2}, {2, 1, 0}, {1, 0, 2}, {2, 0, 1}};
        for (int[] order : orders) {
            for (int kind = 0; kind < 3; kind++) {
                for (int less = 0; less < 2; less++) {
                    OperaHouse x = house(1, 1);
                    // 0 to 2 in a room, marks from 2 to 5, full from 5 to 8, the night at 8; what follows one comes too early
                    int early = less;
                    int[] begins = {0, 2 - (kind == 0 ? early : 0), 5 - (kind <= 1 ? early : 0)};
                    for (int k = 0; k < 3; k++) {
                        if (k != kind) {
                            x.call(1, begins[k], k, 0, 0);
                        }
                    }
                    for (int later : order) {
                        x.call(1 + later, begins[kind] + later, kind, 0, 0);
                    }
                    is("three of kind " + kind, x, 3, x.call(1, 8 - early, 3, 0, 0), less == 1);
                }
            }
        }
    }

    /** Kind 4: "fewer players of some GROUP than SEATS", in none, the one, the other, both halves. */
    private static void enoughPlayers() {
        for (int g = 0; g < 4; g++) {
            for (int seats : new int[] {1, 7, 40}) {
                for (int lack = 0; lack < 2; lack++) {
                    OperaHouse x = new OperaHouse();
                    int[] bytes = {0, 0, 0, 0, 0, 1, 0, 0};
                    bytes[g] = seats;
                    Check.write(x, bytes);
                    x.opera(2, 0, false, 1);
                    for (int halves = 0; halves < 4; halves++) {
                        for (int kind = 0; kind < 4; kind++) {
                            x.call(halves, 5 * kind, kind, 0, halves);
                        }
                    }
                    players(x, g, seats, lack);
                }
            }
        }
    }

    private static void players(OperaHouse x, int g, int seats, int lack) {
        int[][] there = {{seats - lack, 0}, {0, seats - lack}, {seats / 2, seats - seats / 2 - lack}};
        for (int[] t : there) {
            x.players(g, t[0], t[1]);
            int[] sum = {0, t[0], t[1], t[0] + t[1]};
            int[][] all = Check.wrongs(x, 0);
            for (int halves = 0; halves < 4; halves++) {
                for (int kind = 0; kind < 4; kind++) {
                    int due = kind > 1 && sum[halves] < seats ? 1 : 0;
                    Check.same(t[0] + " and " + t[1] + " of " + seats + ", halves " + halves + ", kind " + kind,
                            Check.times(all, 4, 4 * halves + kind, -1), due);
                }
            }
        }
    }

    /** Kind 6: "on its DAY and the six ahead of that" */
    private static void chorusWeek() {
        for (int apart = 0; apart < 9; apart++) {
            OperaHouse x = new OperaHouse();
            Check.opera(x, 4, 0, true, 1, 0, 1, 0, 0);
            x.call(10, 0, 2, 0, 0);
            int c = x.call(10 + apart, 5, 2, 0, 0);
            x.chorus(24, 8);
            is("8 of 8, " + apart + " days apart", x, 6, c, false);
            x.chorus(24, 7);
            is("8 of 7, " + apart + " days apart", x, 6, c, apart <= 6);
            is("the first one", x, 6, 0, false);
            x.chorus(8, 168);
            is("8 a day of 8, " + apart + " days apart", x, 6, c, false);
            x.chorus(7, 168);
            is("8 a day of 7, " + apart + " days apart", x, 6, c, apart == 0);
            x.chorus(4, 3);
            is("4 of 3 in a week", x, 6, c, true);
            is("4 of 3 in a week, the first one", x, 6, 0, true);
            x.chorus(0, 0);
            is("4 of none", x, 6, 0, true);
        }
    }

    /** Kind 7, of calls of each kind. */
    private static void vacantOnes() {
        for (int kind = 0; kind < 4; kind++) {
            OperaHouse x = house(1, 1);
            int c = x.call(29, 21, kind, 0, 0);
            if (kind == 0) {
                is("nobody in a room", x, 7, c, true);
            }
            int d = x.call(29, 0, kind, 0, 0);
            is("nobody, kind " + kind, x, 7, d, true);
            x.cast(d, 0, 0, true);
            is("a cover alone", x, 7, d, true);
            x.cast(d, 0, 0, false);
            is("somebody", x, 7, d, false);
            x.cast(d, 0, -1, false);
            is("nobody again", x, 7, d, true);
        }
    }

    /** Kind 9: "LEARNED by its beginning less than NEED" */
    private static void readyInTime() {
        for (int need : new int[] {1, 2, 59, 60}) {
            for (int learned = need - 1; learned <= need + 1; learned++) {
                OperaHouse x = house(need, 1);
                for (int kind = 0; kind < 4; kind++) {
                    Check.castCall(x, 5, 5 * kind, kind, kind == 3 ? 0 : 1, 0);
                }
                if (learned > 0) {
                    x.learn(0, 0, 0, learned);
                }
                is(learned + " of " + need, x, 9, 3, learned < need);
                for (int kind = 0; kind < 3; kind++) {
                    is("no night needs it", x, 9, kind, false);
                }
                Check.same("harm", x.harm(0, x.call(6, 0, 3, 0, 0), 0), 100 + 10 * Math.max(0, need - learned));
            }
        }
    }

    /** Kind 12: "was on another DAY, and ended fewer than 'rest' HOURS ahead of its beginning" */
    private static void restInTime() {
        for (int rest : new int[] {0, 1, 11, 12, 72}) {
            for (int gap = Math.max(0, rest - 1); gap <= rest + 1; gap++) {
                for (int kind = 0; kind < 4; kind++) {
                    OperaHouse x = house(1, 1);
                    Check.contract(x, 0, "rest " + rest + ";");
                    // ends when day 9 begins
                    Check.castCall(x, 8, 21, 2 + kind % 2, 0, 0);
                    int c = Check.castCall(x, 9 + gap / 24, gap % 24 > 21 ? 21 : gap % 24, kind, 0, 0);
                    int had = (9 + gap / 24) * 24 + (gap % 24 > 21 ? 21 : gap % 24) - 9 * 24;
                    is(had + " hours of " + rest + ", kind " + kind, x, 12, c, had < rest);
                    is("the one ahead", x, 12, 0, false);
                }
            }
        }
        OperaHouse x = house(1, 1);
        Check.contract(x, 0, "rest 72;");
        Check.castCall(x, 8, 0, 2, 0, 0);
        int same = Check.castCall(x, 8, 21, 3, 0, 0);
        is("on the same day", x, 12, same, false);
        int next = Check.castCall(x, 9, 0, 0, 0, 0);
        is("on the next one at once", x, 12, next, true);
        Check.castCall(x, 8, 10, 1, 0, 0);
        is("rooms and marks between do not matter", x, 12, next, true);
        x.call(9, 0, 2, 0, 0);
        is("nor do other ones' calls", x, 12, next, true);
    }

    /** Kind 13: "HOURS of one's CALLS on its DAY, up to it by THE ORDER, are more than 'day' tells and 4" */
    private static void hoursOfADay() {
        for (int day : new int[] {1, 2, 3, 7, 8}) {
            OperaHouse x = house(1, 1);
            Check.contract(x, 0, "day " + day + ";fee 1 if over=0;");
            int hours = 0;
            for (int k = 0; k < 8; k++) {
                int c = Check.castCall(x, 6, 3 * k, k % 2 == 0 ? 0 : 1, 0, 0);
                hours += k % 2 == 0 ? 2 : 3;
                is(hours + " hours of " + day + " and 4", x, 13, c, hours > day + 4);
                Check.same(hours + " hours, over", x.fee(0, c, 0), hours <= day ? 1 : 0);
            }
            int next = Check.castCall(x, 7, 0, 0, 0, 0);
            is("the next day", x, 13, next, false);
        }
        OperaHouse x = house(1, 1);
        Check.contract(x, 0, "day 24;");
        for (int k = 0; k < 8; k++) {
            is("24 hours of 24", x, 13, Check.castCall(x, 0, 3 * k, 1, 0, 0), false);
        }
        Check.castCall(x, 0, 21, 1, 0, 0);
        is("27 hours of 28", x, 13, 8, false);
        Check.castCall(x, 0, 22, 0, 0, 0);
        is("29 hours of 28", x, 13, 9, true);
    }

    /** Kind 14: "on its DAY and the six ahead of that" */
    private static void nightsOfAWeek() {
        for (int apart = 0; apart < 9; apart++) {
            for (int week = 0; week < 3; week++) {
                OperaHouse x = house(1, 1);
                Check.contract(x, 0, "week " + week + ";");
                Check.castCall(x, 10, 0, 3, 0, 0);
                int c = Check.castCall(x, 10 + apart, 5, 3, 0, 0);
                is(week + " a week, " + apart + " days apart", x, 14, c, week == 0 || week == 1 && apart <= 6);
                is(week + " a week, the first one", x, 14, 0, week == 0);
            }
        }
        for (int week = 6; week <= 7; week++) {
            OperaHouse x = house(1, 1);
            Check.contract(x, 0, "week " + week + ";");
            for (int day = 0; day < 9; day++) {
                is("a night a day", x, 14, Check.castCall(x, day, 0, 3, 0, 0), week == 6 && day >= 6);
            }
        }
    }

    /** Kind 15: "TIRED, when it has begun, is more than 'voice' tells" */
    private static void tooTired() {
        for (int voice = 1; voice < 28; voice++) {
            OperaHouse x = house(1, 1);
            Check.contract(x, 0, "voice " + voice + ";");
            int full = Check.castCall(x, 0, 0, 2, 0, 0);
            int night = Check.castCall(x, 0, 4, 3, 0, 0);
            int room = Check.castCall(x, 0, 20, 0, 0, 0);
            is("10 of " + voice, x, 15, full, 10 > voice);
            is("26 of " + voice, x, 15, night, 26 > voice);
            is("10 of " + voice + ", in a room", x, 15, room, 10 > voice);
        }
        atOneHour();
        for (int roles = 16; roles <= 17; roles++) {
            // 8 roles of strain 30 twice are 480; two such nights and more at one hour
            OperaHouse x = new OperaHouse();
            Check.opera(x, 2, 0, false, 1, 0, 30, 0, 0, 0, 30, 0, 0, 0, 30, 0, 0, 0, 30, 0, 0, 0, 30, 0, 0,
                    0, 30, 0, 0, 0, 30, 0, 0, 0, 30, 0, 0);
            Check.opera(x, 2, 0, false, 1, 0, 19, 0, 0, 0, 1, 0, 0);
            x.singer(1, 1, 0);
            Check.contract(x, 0, "voice 999;");
            for (int c = 0; c < 2; c++) {
                x.call(0, 0, 3, 0, 0);
                for (int r = 0; r < 8; r++) {
                    x.cast(c, r, 0, false);
                }
            }
            Check.same("960", x.tired(0, 0, 0), 960);
            int c = x.call(0, 0, 3, 1, 0);
            x.cast(c, 0, 0, false);
            x.cast(c, 1, 0, false);
            Check.same("1000 are more than 999", Check.times(x, 0, 15, c, 0), 1);
            x.cast(c, 1, -1, false);
            Check.same("998 are not", Check.times(x, 0, 15, c, 0), 0);
        }
    }

    /** What begins at one hour has begun for each of these calls. */
    private static void atOneHour() {
        for (int voice = 8; voice < 32; voice++) {
            OperaHouse x = house(1, 1);
            Check.contract(x, 0, "voice " + voice + ";");
            int alone = Check.castCall(x, 0, 0, 2, 0, 0);
            int first = Check.castCall(x, 0, 4, 2, 0, 0);
            int room = Check.castCall(x, 0, 4, 0, 0, 0);
            int last = Check.castCall(x, 0, 4, 2, 1, 0);
            int behind = Check.castCall(x, 0, 9, 1, 0, 0);
            int[] tired = {10, 26, 26, 26, 21};
            int[] which = {alone, first, room, last, behind};
            for (int k = 0; k < 5; k++) {
                is(tired[k] + " of " + voice + ", call " + which[k], x, 15, which[k], tired[k] > voice);
                Check.same("tired of call " + which[k], x.tired(0, which[k], 0), tired[k]);
            }
        }
    }

    /** Kinds 1 to 6 of one call, and 7 of its roles. */
    private static void allKindsOfACall() {
        OperaHouse x = new OperaHouse();
        Check.write(x, 0, 0, 0, 1, 0, 1, 0, 0, 0, 1, 0, 0);
        x.opera(2, 3, true, 1);
        x.chorus(2, 2);
        x.call(0, 0, 2, 0, 1);
        int c = x.call(0, 1, 3, 0, 3);
        Check.wrong("all kinds of a call", x, 0, 2, 0, -1, 4, 0, -1, 7, 0, 0, 7, 0, 1,
                1, c, -1, 2, c, -1, 3, c, -1, 4, c, -1, 5, c, -1, 6, c, -1, 7, c, 0, 7, c, 1);
        x.players(3, 0, 1);
        Check.wrong("but for 4 of both halves", x, 0, 2, 0, -1, 4, 0, -1, 7, 0, 0, 7, 0, 1,
                1, c, -1, 2, c, -1, 3, c, -1, 5, c, -1, 6, c, -1, 7, c, 0, 7, c, 1);
        x.chorus(4, 4);
        Check.wrong("but for 4 and 6", x, 0, 2, 0, -1, 4, 0, -1, 7, 0, 0, 7, 0, 1,
                1, c, -1, 2, c, -1, 3, c, -1, 5, c, -1, 7, c, 0, 7, c, 1);
    }

    /** Kinds 8 to 15 of one role, and of the lesser one all but 11, then that too. */
    private static void allKindsOfARole() {
        OperaHouse x = new OperaHouse();
        Check.opera(x, 4, 0, false, 1, 5, 9, 0, 0, 0, 9, 5, 0);
        Check.opera(x, 6, 0, false, 1, 0, 1, 0, 0);
        x.singer(2, 2, 9);
        Check.contract(x, 0, "rest 72;day 1;week 0;voice 1;leave 3 to 3;");
        for (int kind = 0; kind < 3; kind++) {
            x.call(0, 5 * kind, kind, 0, 0);
        }
        int ahead = Check.castCall(x, 2, 10, 2, 1, 0);
        int night = x.call(3, 10, 3, 0, 0);
        x.cast(night, 0, 0, false);
        x.cast(night, 1, 0, false);
        Check.wrong("all kinds but 11 of the lesser role, 13", x, 0, 7, 0, 0, 7, 0, 1, 7, 1, 0, 7, 1, 1, 7, 2, 0, 7, 2, 1,
                8, ahead, 0, 13, ahead, 0,
                8, night, 0, 8, night, 1, 9, night, 0, 9, night, 1, 10, night, 0, 10, night, 1, 11, night, 1,
                12, night, 0, 12, night, 1, 14, night, 0, 14, night, 1, 15, night, 0, 15, night, 1);
        int room = Check.castCall(x, 3, 9, 0, 1, 0);
        Check.wrong("and these two", x, 0, 7, 0, 0, 7, 0, 1, 7, 1, 0, 7, 1, 1, 7, 2, 0, 7, 2, 1,
                8, ahead, 0, 13, ahead, 0, 8, room, 0, 10, room, 0, 12, room, 0,
                8, night, 0, 8, night, 1, 9, night, 0, 9, night, 1, 10, night, 0, 10, night, 1,
                11, night, 0, 11, night, 1, 12, night, 0, 12, night, 1, 13, night, 0, 13, night, 1,
                14, night, 0, 14, night, 1, 15, night, 0, 15, night, 1);
    }
}
