/** Promises 18 to 21: learned, tired, fee, pay. */
public final class HoursTest {
    public static void main(String[] args) {
        learnedByCalls();
        learnedAsOf();
        tiring();
        tiringTwice();
        tiredAsOf();
        nobodyHasThese();
        feeByKind();
        feeLate();
        feeCover();
        feeInstead();
        feeNth();
        feeOver();
        feeOfConds();
        feeOfTheIll();
        pays();
        Check.end();
    }

    /** An opera of two roles (strain 10 and 3) and 4 hours, singers who suit. */
    private static OperaHouse house(int singers) {
        OperaHouse x = new OperaHouse();
        Check.opera(x, 4, 0, false, 1, 0, 10, 0, 0, 0, 3, 0, 0);
        for (int s = 0; s < singers; s++) {
            x.singer(1, 1, 0);
        }
        return x;
    }

    private static int castCall(OperaHouse x, int day, int hour, int kind, int s) {
        int c = x.call(day, hour, kind, 0, 0);
        x.cast(c, 0, s, false);
        return c;
    }

    private static void learnedByCalls() {
        OperaHouse x = house(2);
        Check.opera(x, 2, 0, false, 1, 0, 1, 0, 0);
        int late = x.call(2, 10, 0, 0, 0);
        castCall(x, 0, 0, 0, 0);
        castCall(x, 0, 10, 1, 0);
        castCall(x, 1, 10, 2, 0);
        castCall(x, 1, 15, 3, 0);
        int ends = castCall(x, 2, 8, 0, 0);
        int over = castCall(x, 2, 9, 0, 0);
        int other = x.call(0, 5, 0, 1, 0);
        x.cast(other, 0, 0, false);
        int second = x.call(0, 20, 1, 0, 0);
        x.cast(second, 1, 0, false);
        Check.same("room, marks, full, room; no night, none that is on", x.learned(0, late, 0, 0), 2 + 3 + 4 + 2);
        Check.same("in the other role", x.learned(0, late, 1, 0), 3);
        Check.same("by the beginning of one of these", x.learned(0, ends, 0, 0), 9);
        Check.same("the same", x.learned(0, over, 0, 0), 9);
        Check.same("another opera", x.learned(0, other, 0, 0), 0);
        Check.same("another singer", x.learned(1, late, 0, 0), 0);
        x.learn(0, 0, 0, 5);
        Check.same("and as told", x.learned(0, late, 0, 0), 16);
        x.cast(1, 0, 1, false);
        Check.same("one less", x.learned(0, late, 0, 0), 14);
        Check.same("that is the other one's", x.learned(1, late, 0, 0), 2);
        x.cast(1, 0, 0, true);
        Check.same("a cover learns nothing", x.learned(0, late, 0, 0), 14);
    }

    private static void learnedAsOf() {
        OperaHouse x = house(1);
        int c = x.call(9, 10, 3, 0, 0);
        x.learn(0, 0, 0, 1);
        x.next(2);
        castCall(x, 5, 0, 0, 0);
        x.next(2);
        x.learn(0, 0, 0, 7);
        int[] due = {1, 1, 3, 3, 10, 10};
        for (int t = 0; t < 6; t++) {
            Check.same("learned as of " + t, x.learned(0, c, 0, t), due[t]);
        }
        Check.same("learned as of -1", x.learned(0, c, 0, -1), 0);
    }

    private static void tiring() {
        OperaHouse x = house(2);
        int a = castCall(x, 0, 0, 3, 0);
        int b = castCall(x, 0, 5, 2, 0);
        int c = castCall(x, 0, 10, 1, 0);
        int d = castCall(x, 0, 15, 0, 0);
        int none = x.call(1, 0, 2, 0, 0);
        int rested = x.call(1, 1, 0, 0, 0);
        int long1 = x.call(3, 0, 0, 0, 0);
        int e = castCall(x, 4, 0, 2, 0);
        Check.same("a night", x.tired(0, a, 0), 20);
        Check.same("and a full five hours later", x.tired(0, b, 0), 25);
        Check.same("marks tire not", x.tired(0, c, 0), 20);
        Check.same("a room tires not", x.tired(0, d, 0), 15);
        Check.same("a call of nobody", x.tired(0, none, 0), 6);
        Check.same("an hour later", x.tired(0, rested, 0), 5);
        Check.same("no less than 0", x.tired(0, long1, 0), 0);
        Check.same("from 0 again", x.tired(0, e, 0), 10);
        Check.same("another singer", x.tired(1, e, 0), 0);
    }

    private static void tiringTwice() {
        OperaHouse x = house(1);
        int a = castCall(x, 0, 0, 3, 0);
        x.cast(a, 1, 0, false);
        Check.same("two roles of a night", x.tired(0, a, 0), 26);
        int b = castCall(x, 0, 1, 2, 0);
        x.cast(b, 1, 0, false);
        Check.same("two roles of a full", x.tired(0, b, 0), 25 + 13);
        int c = x.call(0, 1, 2, 0, 0);
        x.cast(c, 1, 0, false);
        Check.same("two calls at one hour", x.tired(0, c, 0), 41);
        Check.same("when one has begun, so has the other", x.tired(0, b, 0), 41);
        x.cast(a, 0, -1, false);
        Check.same("the lesser role alone", x.tired(0, a, 0), 6);
        x.cast(a, 0, 0, true);
        Check.same("a cover is not tired", x.tired(0, a, 0), 6);
    }

    private static void tiredAsOf() {
        OperaHouse x = house(1);
        int a = x.call(5, 0, 3, 0, 0);
        x.next(3);
        x.cast(a, 0, 0, false);
        Check.same("as of 2", x.tired(0, a, 2), 0);
        Check.same("as of 3", x.tired(0, a, 3), 20);
        x.ill(0, 5, 5);
        Check.same("the ill are tired, too", x.tired(0, a, 3), 20);
    }

    private static void nobodyHasThese() {
        OperaHouse x = house(1);
        int c = castCall(x, 0, 0, 0, 0);
        int[][] bad = {{-1, c}, {1, c}, {0, -1}, {0, 1}, {Integer.MAX_VALUE, c}, {0, Integer.MIN_VALUE}};
        for (int[] b : bad) {
            Check.same("learned " + b[0] + ", " + b[1], x.learned(b[0], b[1], 0, 0), -1);
            Check.same("tired " + b[0] + ", " + b[1], x.tired(b[0], b[1], 0), -1);
            Check.same("fee " + b[0] + ", " + b[1], x.fee(b[0], b[1], 0), -1);
        }
        Check.same("learned of role 2", x.learned(0, c, 2, 0), -1);
        Check.same("learned of role -1", x.learned(0, c, -1, 0), -1);
        Check.same("pay of singer 1", x.pay(1, 0, 0), -1);
        Check.same("pay of singer -1", x.pay(-1, 0, 0), -1);
        Check.same("pay by day -1", x.pay(0, -1, 0), -1);
        Check.same("pay by day 30", x.pay(0, 30, 0), -1);
        Check.same("pay by day 29", x.pay(0, 29, 0), 0);
        Check.same("any t", x.fee(0, c, Integer.MIN_VALUE), 0);
    }

    private static void feeByKind() {
        OperaHouse x = house(2);
        Check.contract(x, 0, "fee 1000;fee 1 if room;fee 2 if marks;fee 4 if full;fee 8 if night;fee 16 if hours=4;"
                + "fee 32 if hours<3;fee 64 if hours>3;");
        int[] due = {1033, 1002, 1084, 1088};
        for (int kind = 0; kind < 4; kind++) {
            Check.same("fee of kind " + kind, x.fee(0, castCall(x, kind, 0, kind, 0), 0), due[kind]);
        }
        Check.same("neither cast nor cover", x.fee(1, 0, 0), 0);
        Check.contract(x, 1, "fee 5;");
        Check.same("neither, with a fee", x.fee(1, 0, 0), 0);
    }

    private static void feeLate() {
        OperaHouse x = house(1);
        Check.contract(x, 0, "fee 1;fee 2 if late;");
        Check.same("ends at 22", x.fee(0, castCall(x, 0, 18, 2, 0), 0), 1);
        Check.same("ends at 23", x.fee(0, castCall(x, 1, 19, 2, 0), 0), 3);
        Check.same("ends at 24", x.fee(0, castCall(x, 2, 20, 2, 0), 0), 3);
        Check.same("in the morning", x.fee(0, castCall(x, 3, 0, 0, 0), 0), 1);
    }

    private static void feeCover() {
        OperaHouse x = house(2);
        Check.contract(x, 0, "fee 1;fee 2 if cover;fee 4 if nth=0;fee 8 if over=0;fee 16 if instead;fee 32 if late;"
                + "fee 64 if night and hours=4;");
        int c = castCall(x, 0, 20, 3, 1);
        Check.same("neither", x.fee(0, c, 0), 0);
        x.cast(c, 1, 0, true);
        Check.same("a cover alone", x.fee(0, c, 0), 1 + 2 + 4 + 8 + 32 + 64);
        x.cast(c, 0, 0, false);
        Check.same("cast, and a cover of another role", x.fee(0, c, 0), 1 + 2 + 8 + 16 + 32 + 64);
        x.cast(c, 1, 1, true);
        Check.same("no cover any more", x.fee(0, c, 0), 1 + 8 + 16 + 32 + 64);
        x.cast(c, 0, 1, false);
        Check.same("neither any more", x.fee(0, c, 0), 0);
        Check.contract(x, 0, "day 1;fee 1 if over>0;");
        x.cast(c, 0, 0, true);
        castCall(x, 0, 0, 2, 0);
        Check.same("hours of one's calls are none to a cover", x.fee(0, c, 0), 0);
    }

    private static void feeInstead() {
        OperaHouse x = house(3);
        Check.contract(x, 0, "fee 1;fee 2 if instead;");
        int c = castCall(x, 9, 0, 0, 0);
        Check.same("first of all", x.fee(0, c, 0), 1);
        x.cast(c, 0, 0, false);
        Check.same("ahead was oneself", x.fee(0, c, 0), 1);
        x.next(1);
        x.cast(c, 0, 1, false);
        x.cast(c, 0, 0, false);
        Check.same("ahead was another one", x.fee(0, c, 1), 3);
        Check.same("as of the day ahead", x.fee(0, c, 0), 1);
        x.cast(c, 0, 0, true);
        Check.same("covers told are no casts", x.fee(0, c, 1), 3);
        x.cast(c, 0, 0, false);
        Check.same("told twice, ahead was oneself", x.fee(0, c, 1), 1);
        x.cast(c, 0, 1, false);
        x.cast(c, 0, -1, false);
        x.cast(c, 0, 0, false);
        Check.same("ahead was nobody", x.fee(0, c, 1), 1);
        x.cast(c, 1, 1, false);
        x.cast(c, 1, 2, false);
        Check.same("in a role that one has not", x.fee(0, c, 1), 1);
        x.cast(c, 1, 0, false);
        Check.same("in one of two roles", x.fee(0, c, 1), 3);
        for (int k = 1; k < 12; k++) {
            int d = x.call(9, k, 0, 0, 0);
            x.cast(d, k % 2, 1, false);
            x.cast(d, k % 2, 0, false);
            Check.same("in call " + d, x.fee(0, d, 1), 3);
            int alone = x.call(9, k, 0, 0, 0);
            x.cast(alone, 1, 0, false);
            Check.same("in call " + alone, x.fee(0, alone, 1), 1);
        }
        for (int alone = 2; alone < 23; alone += 2) {
            Check.same("in call " + alone + " of all", x.fee(0, alone, 1), 1);
        }
    }

    private static void feeNth() {
        OperaHouse x = house(1);
        Check.contract(x, 0, "fee 1 if nth=0;fee 10 if nth=1;fee 100 if nth=2;fee 1000 if nth>2;");
        int third = castCall(x, 20, 0, 3, 0);
        int first = castCall(x, 2, 0, 3, 0);
        int full = castCall(x, 4, 0, 2, 0);
        int second = castCall(x, 10, 5, 3, 0);
        int more = castCall(x, 20, 0, 3, 0);
        Check.same("the first night", x.fee(0, first, 0), 10);
        Check.same("a full", x.fee(0, full, 0), 1);
        Check.same("the second", x.fee(0, second, 0), 100);
        Check.same("the third", x.fee(0, third, 0), 1000);
        Check.same("the fourth, of the same hour", x.fee(0, more, 0), 1000);
        x.cast(second, 0, -1, false);
        Check.same("the third is the second", x.fee(0, third, 0), 100);
        Check.same("by number at one hour", x.fee(0, more, 0), 1000);
    }

    private static void feeOver() {
        OperaHouse x = house(1);
        Check.contract(x, 0, "day 3;fee 1 if over=0;fee 10 if over=2;fee 100 if over>3;fee 1000 if over<1;");
        int third = castCall(x, 1, 20, 0, 0);
        int first = castCall(x, 1, 5, 1, 0);
        int second = castCall(x, 1, 9, 0, 0);
        castCall(x, 0, 9, 2, 0);
        Check.same("three hours", x.fee(0, first, 0), 1001);
        Check.same("five hours", x.fee(0, second, 0), 10);
        Check.same("seven hours", x.fee(0, third, 0), 100);
        Check.contract(x, 0, "fee 1 if over=0;fee 10 if over>0;");
        Check.same("8 without a rule", x.fee(0, third, 0), 1);
        castCall(x, 1, 0, 0, 0);
        Check.same("nine hours", x.fee(0, third, 0), 10);
        Check.same("not yet", x.fee(0, second, 0), 1);
    }

    private static void feeOfConds() {
        OperaHouse x = house(1);
        int c = castCall(x, 0, 20, 3, 0);
        // so of the call: night, late; not so: room, full, cover
        String[] so = {"night or room and cover", "not room and not cover", "not not night", "room or cover or night",
            "room and night or late", "not night or late", "not (night and room) and late",
            "not room and (cover or (night and not (late and cover)))", "not (cover or night and room)",
            "late and not (cover or (room or night and full) and late)", "(room or late)and(cover or night)",
            "hours>3", "hours=4", "hours<5", "nth=1", "over<1", "over=0", "hours<99999", "hours=00004"};
        String[] notSo = {"(night or room)and cover", "not(room or night)", "night and late and cover",
            "not (night and room) and not late", "night and (cover or late and (room or full))",
            "room and (cover or late)", "room and late or cover and night or full", "hours>4", "hours<4", "nth<1",
            "nth=0", "over>0", "hours=99999"};
        for (String cond : so) {
            Check.contract(x, 0, "fee 7 if " + cond + ";");
            Check.same("fee if " + cond, x.fee(0, c, 0), 7);
        }
        for (String cond : notSo) {
            Check.contract(x, 0, "fee 7 if " + cond + ";");
            Check.same("no fee if " + cond, x.fee(0, c, 0), 0);
        }
        Check.contract(x, 0, "fee 99999;fee 99999;fee 99999;fee 99999;fee 99999;fee 99999;fee 99999;fee 99999;");
        Check.same("all fees that hold", x.fee(0, c, 0), 799992);
    }

    private static void feeOfTheIll() {
        OperaHouse x = house(2);
        Check.contract(x, 0, "fee 5;leave 3 to 3;");
        int c = castCall(x, 3, 0, 0, 0);
        Check.same("on leave", x.fee(0, c, 0), 5);
        x.next(1);
        x.ill(0, 3, 4);
        Check.same("ill", x.fee(0, c, 1), 0);
        Check.same("not known to be", x.fee(0, c, 0), 5);
        int d = castCall(x, 4, 0, 0, 1);
        x.cast(d, 0, 0, true);
        Check.same("an ill cover", x.fee(0, d, 1), 0);
        Check.same("a day later", x.fee(0, castCall(x, 5, 0, 0, 0), 1), 5);
    }

    private static void pays() {
        OperaHouse x = house(1);
        Check.contract(x, 0, "fee 1;fee 10 if night;fee 100 if cover;");
        castCall(x, 4, 0, 0, 0);
        castCall(x, 2, 0, 3, 0);
        x.cast(x.call(6, 0, 0, 0, 0), 1, 0, true);
        x.call(7, 0, 0, 0, 0);
        int[] due = {0, 0, 11, 11, 12, 12, 113, 113, 113};
        for (int d = 0; d < due.length; d++) {
            Check.same("pay up to " + d, x.pay(0, d, 0), due[d]);
        }
        x.next(1);
        x.ill(0, 4, 4);
        Check.same("as of 0", x.pay(0, 29, 0), 113);
        Check.same("as of 1", x.pay(0, 29, 1), 112);
        Check.same("as of -1", x.pay(0, 29, -1), 0);
    }
}
