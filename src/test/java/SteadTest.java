/** Promises 23 to 25: may, harm, instead. */
public final class SteadTest {
    public static void main(String[] args) {
        noSuchOnes();
        mayByKinds();
        mayByOtherCalls();
        mayIfItWasSo();
        mayInPlaceOf();
        mayToday();
        harms();
        harmsFee();
        best();
        changesNothing();
        Check.end();
    }

    /** An opera of one role, 2 hours, need 4, voice 0, tongue 0, size 5. */
    private static OperaHouse house(int singers) {
        OperaHouse x = new OperaHouse();
        Check.opera(x, 2, 0, false, 4, 0, 10, 0, 5);
        for (int s = 0; s < singers; s++) {
            x.singer(1, 1, 5);
        }
        return x;
    }

    private static int castCall(OperaHouse x, int day, int hour, int kind, int s) {
        int c = x.call(day, hour, kind, 0, 0);
        x.cast(c, 0, s, false);
        return c;
    }

    private static void noSuchOnes() {
        OperaHouse x = house(1);
        int c = x.call(0, 0, 0, 0, 0);
        int[][] bad = {{-1, c, 0}, {1, c, 0}, {0, -1, 0}, {0, 1, 0}, {0, c, -1}, {0, c, 1}};
        for (int[] b : bad) {
            Check.no("may of " + b[0] + ", " + b[1] + ", " + b[2], x.may(b[0], b[1], b[2]));
            Check.same("harm of " + b[0] + ", " + b[1] + ", " + b[2], x.harm(b[0], b[1], b[2]), -1);
        }
        Check.same("instead, call -1", x.instead(-1, 0), -1);
        Check.same("instead, call 1", x.instead(1, 0), -1);
        Check.same("instead, role -1", x.instead(c, -1), -1);
        Check.same("instead, role 1", x.instead(c, 1), -1);
        Check.yes("may", x.may(0, c, 0));
        Check.same("instead", x.instead(c, 0), 0);
        x.cast(c, 0, 0, false);
        Check.no("cast in it", x.may(0, c, 0));
        Check.same("harm, cast in it", x.harm(0, c, 0), -1);
        Check.same("nobody may", x.instead(c, 0), -1);
        OperaHouse y = new OperaHouse();
        Check.opera(y, 2, 0, false, 4, 0, 10, 0, 5);
        Check.same("no singers", y.instead(y.call(0, 0, 0, 0, 0), 0), -1);
    }

    private static void mayByKinds() {
        OperaHouse x = house(1);
        x.singer(2, 1, 5);
        x.singer(1, 1, 7);
        x.singer(1, 1, 6);
        int c = x.call(3, 10, 3, 0, 0);
        Check.yes("kind 9 does not matter", x.may(0, c, 0));
        Check.no("another voice", x.may(1, c, 0));
        Check.no("another size", x.may(2, c, 0));
        Check.yes("nearly the size", x.may(3, c, 0));
        Check.contract(x, 0, "leave 3 to 4;");
        Check.no("on leave", x.may(0, c, 0));
        Check.contract(x, 0, "leave 4 to 4;");
        Check.yes("not on leave", x.may(0, c, 0));
        x.ill(0, 0, 3);
        Check.no("ill", x.may(0, c, 0));
        Check.contract(x, 3, "week 0;");
        Check.no("no night in the week", x.may(3, c, 0));
        Check.contract(x, 3, "voice 19;");
        Check.no("20 are more than 19", x.may(3, c, 0));
        Check.contract(x, 3, "voice 20;");
        Check.yes("not more than 20", x.may(3, c, 0));
    }

    private static void mayByOtherCalls() {
        OperaHouse x = house(1);
        int c = x.call(3, 10, 2, 0, 0);
        int on = castCall(x, 3, 9, 0, 0);
        Check.no("a call ahead is on", x.may(0, c, 0));
        x.cast(on, 0, -1, false);
        int behind = castCall(x, 3, 11, 0, 0);
        Check.no("one's later call would be wrong", x.may(0, c, 0));
        x.cast(behind, 0, -1, false);
        Check.yes("free", x.may(0, c, 0));
        int next = castCall(x, 4, 8, 0, 0);
        Check.yes("20 hours of rest behind it", x.may(0, c, 0));
        Check.contract(x, 0, "rest 21;");
        Check.no("one's later call would lack rest", x.may(0, c, 0));
        x.cast(next, 0, -1, false);
        Check.yes("free again", x.may(0, c, 0));
        Check.contract(x, 0, "day 1;");
        castCall(x, 3, 14, 0, 0);
        Check.yes("four hours of five", x.may(0, c, 0));
        castCall(x, 3, 18, 0, 0);
        Check.no("the last of the day would be too much", x.may(0, c, 0));
        OperaHouse y = house(1);
        int night = y.call(3, 10, 3, 0, 0);
        castCall(y, 9, 10, 3, 0);
        Check.contract(y, 0, "week 1;");
        Check.no("a later night would be the second of its week", y.may(0, night, 0));
        Check.contract(y, 0, "week 2;voice 39;");
        Check.yes("not tired by then", y.may(0, night, 0));
        castCall(y, 3, 13, 3, 0);
        Check.contract(y, 0, "voice 36;");
        Check.no("20 less 3 and 20 are more than 36", y.may(0, night, 0));
        Check.contract(y, 0, "voice 37;");
        Check.yes("not more than 37", y.may(0, night, 0));
    }

    /** What is wrong now of one's calls does not matter. */
    private static void mayIfItWasSo() {
        OperaHouse x = house(1);
        int c = x.call(3, 10, 0, 0, 0);
        castCall(x, 5, 0, 0, 0);
        x.ill(0, 5, 5);
        Check.yes("ill on another day", x.may(0, c, 0));
        castCall(x, 3, 14, 0, 0);
        castCall(x, 3, 15, 0, 0);
        Check.yes("two calls at once already", x.may(0, c, 0));
        castCall(x, 3, 9, 0, 0);
        Check.no("the new one is wrong", x.may(0, c, 0));
    }

    private static void mayInPlaceOf() {
        OperaHouse x = new OperaHouse();
        Check.opera(x, 2, 0, false, 4, 0, 10, 0, 5, 0, 10, 0, 5);
        for (int s = 0; s < 3; s++) {
            x.singer(1, 1, 5);
        }
        int c = x.call(3, 10, 0, 0, 0);
        x.cast(c, 0, 0, false);
        x.cast(c, 1, 1, false);
        Check.no("cast in another role of it", x.may(0, c, 1));
        Check.yes("in the place of one", x.may(2, c, 0));
        x.singer(2, 1, 5);
        x.cast(c, 0, 3, false);
        Check.yes("one is wrong there now", x.may(2, c, 0));
        x.singer(2, 1, 5);
        Check.no("another one would be as wrong", x.may(4, c, 0));
        Check.same("two are wrong", x.wrong(0), 1);
        Check.no("also behind wrong", x.may(4, c, 0));
        x.cast(c, 0, 2, true);
        Check.yes("a cover is not cast", x.may(2, c, 0));
        x.cast(c, 0, -1, false);
        Check.yes("in nobody's place", x.may(2, c, 0));
    }

    private static void mayToday() {
        OperaHouse x = house(2);
        int c = x.call(3, 10, 0, 0, 0);
        x.next(3);
        Check.yes("on its day", x.may(0, c, 0));
        Check.same("instead on its day", x.instead(c, 0), 0);
        x.next(1);
        Check.no("its day is ahead of today", x.may(0, c, 0));
        Check.same("instead behind its day", x.instead(c, 0), -1);
        Check.same("harm behind its day", x.harm(0, c, 0), 140);
    }

    private static void harms() {
        OperaHouse x = house(2);
        x.singer(2, 2, 1);
        int c = x.call(3, 10, 3, 0, 0);
        Check.same("no cover, nothing learned", x.harm(0, c, 0), 140);
        Check.same("and of another size", x.harm(2, c, 0), 152);
        x.cast(c, 0, 0, true);
        Check.same("the cover", x.harm(0, c, 0), 40);
        Check.same("the other one", x.harm(1, c, 0), 140);
        x.cast(c, 0, 1, true);
        Check.same("a cover no more", x.harm(0, c, 0), 140);
        x.learn(0, 0, 0, 1);
        Check.same("an hour learned", x.harm(0, c, 0), 130);
        castCall(x, 3, 8, 0, 0);
        Check.same("three hours", x.harm(0, c, 0), 110);
        x.learn(0, 0, 0, 99);
        Check.same("more than need", x.harm(0, c, 0), 100);
        x.ill(0, 0, 29);
        Check.same("whether one may or not", x.harm(0, c, 0), 100);
        Check.no("may not", x.may(0, c, 0));
        OperaHouse y = new OperaHouse();
        Check.opera(y, 2, 0, false, 4, 0, 10, 0, 5, 0, 10, 0, 5);
        y.singer(1, 1, 5);
        y.call(0, 0, 0, 0, 0);
        y.cast(0, 1, 0, true);
        Check.same("a cover of another role", y.harm(0, 0, 0), 140);
        y.cast(0, 1, 0, false);
        Check.same("cast in another role", y.harm(0, 0, 0), -1);
    }

    private static void harmsFee() {
        OperaHouse x = house(2);
        int c = x.call(3, 21, 3, 0, 0);
        x.learn(0, 0, 0, 4);
        Check.contract(x, 0, "fee 199;");
        Check.same("cut", x.harm(0, c, 0), 101);
        Check.contract(x, 0, "fee 200;");
        Check.same("two hundred", x.harm(0, c, 0), 102);
        Check.contract(x, 0, "fee 100 if instead;fee 200 if nth=1;fee 400 if late;fee 800 if over>0;fee 1600 if cover;");
        Check.same("the night and late", x.harm(0, c, 0), 106);
        castCall(x, 3, 19, 3, 0);
        Check.same("the second night", x.harm(0, c, 0), 104);
        x.cast(c, 0, 1, false);
        Check.same("instead of another one", x.harm(0, c, 0), 105);
        x.cast(c, 0, -1, false);
        Check.same("instead of nobody", x.harm(0, c, 0), 104);
        x.cast(c, 0, 0, true);
        Check.same("the cover's fee", x.harm(0, c, 0), 20);
        x.ill(0, 3, 3);
        Check.same("the ill have none", x.harm(0, c, 0), 0);
        OperaHouse y = house(1);
        Check.contract(y, 0, "day 1;fee 300 if over=1;");
        Check.same("over with it", y.harm(0, y.call(0, 0, 0, 0, 0), 0), 143);
    }

    private static void best() {
        OperaHouse x = house(4);
        int c = x.call(3, 10, 0, 0, 0);
        Check.same("all alike", x.instead(c, 0), 0);
        x.learn(2, 0, 0, 1);
        Check.same("who has learned", x.instead(c, 0), 2);
        x.cast(c, 0, 3, true);
        Check.same("the cover", x.instead(c, 0), 3);
        x.ill(3, 3, 3);
        Check.same("the cover is ill", x.instead(c, 0), 2);
        x.cast(c, 0, 2, false);
        Check.same("who is cast is not", x.instead(c, 0), 0);
        x.learn(1, 0, 0, 2);
        Check.same("learned", x.instead(c, 0), 1);
        Check.contract(x, 1, "fee 1999;");
        Check.same("by a little", x.instead(c, 0), 1);
        Check.contract(x, 1, "fee 2000;");
        Check.same("of like ones the least number", x.instead(c, 0), 0);
        Check.contract(x, 1, "fee 2100;");
        Check.same("too dear", x.instead(c, 0), 0);
    }

    private static void changesNothing() {
        OperaHouse x = house(3);
        int c = castCall(x, 3, 10, 0, 0);
        Check.contract(x, 0, "fee 5;fee 7 if instead;");
        x.cast(c, 0, 1, true);
        x.may(1, c, 0);
        x.harm(2, c, 0);
        x.instead(c, 0);
        Check.same("who", x.who(c, 0, false, 0), 0);
        Check.same("cover", x.who(c, 0, true, 0), 1);
        Check.same("casts", x.count(4), 2);
        Check.same("fee", x.fee(0, c, 0), 5);
        Check.same("of the other", x.learned(1, x.call(9, 0, 0, 0, 0), 0, 0), 0);
        Check.same("learned", x.learned(0, 1, 0, 0), 2);
    }
}
