/** Promises 26 to 28: lay, laid, keep. */
public final class LayTest {
    public static void main(String[] args) {
        asTold();
        noRoomForMore();
        plain();
        triesCount();
        goingBack();
        givenUp();
        justNot();
        laterDays();
        halvesAndCasts();
        othersStay();
        theirOwnNumbers();
        keeping();
        toldSince();
        tooManyCasts();
        keepTellsToday();
        manyRoles();
        firstOfAll();
        wrongAlready();
        Check.end();
    }

    /** Operas of one role, 2 hours, strain 1, need 1, all with set 0; singer o sings opera o. */
    private static OperaHouse house(int operas) {
        OperaHouse x = new OperaHouse();
        for (int o = 0; o < operas; o++) {
            Check.opera(x, 2, 0, false, 1, 0, 1, 0, 0);
            x.singer(1, 1, 0);
            rehearse(x, o);
        }
        return x;
    }

    /** A room, marks and a full of an opera on day o. */
    private static void rehearse(OperaHouse x, int o) {
        for (int kind = 0; kind < 3; kind++) {
            x.cast(x.call(o, 8 + 3 * kind, kind, o, kind == 2 ? 3 : 0), 0, o, false);
        }
    }

    private static int lay(OperaHouse x, int first, int last, int hour, int... wishes) {
        x.end(0);
        Check.write(x, wishes);
        int answer = x.lay(first, last, hour);
        Check.same("the tape is empty behind lay", x.count(6), 0);
        return answer;
    }

    private static void days(String what, OperaHouse x, int... due) {
        for (int k = 0; k < due.length; k++) {
            Check.same(what + ": day of " + k, x.laid(k), due[k]);
        }
        Check.same(what + ": no more", x.laid(due.length), -1);
        Check.same(what + ": none ahead", x.laid(-1), -1);
    }

    private static void asTold() {
        OperaHouse x = house(2);
        x.next(1);
        Check.same("no opera", lay(x, 3, 9, 10), -1);
        Check.same("seven", lay(x, 3, 9, 10, 0, 0, 0, 0, 0, 0, 0), -1);
        Check.same("no such opera", lay(x, 3, 9, 10, 0, 2), -1);
        Check.same("opera 255", lay(x, 3, 9, 10, 255), -1);
        Check.same("first ahead of today", lay(x, 0, 9, 10, 0), -1);
        Check.same("first -1", lay(x, -1, 9, 10, 0), -1);
        Check.same("last 30", lay(x, 3, 30, 10, 0), -1);
        Check.same("last ahead of first", lay(x, 3, 2, 10, 0), -1);
        Check.same("hour -1", lay(x, 3, 9, -1, 0), -1);
        Check.same("hour 23", lay(x, 3, 9, 23, 0), -1);
        Check.same("hour most", lay(x, 3, 9, Integer.MAX_VALUE, 0), -1);
        Check.same("laid", x.laid(0), -1);
        Check.same("keep", x.keep(), -1);
        Check.same("hour 22", lay(x, 3, 9, 22, 0), 1);
        days("hour 22", x, 3);
        Check.same("a bad one", lay(x, 3, 9, 23, 0), -1);
        days("a bad one", x);
        Check.same("today", lay(x, 1, 1, 20, 0), 1);
        Check.same("day 29", lay(x, 29, 29, 20, 0), 1);
        days("day 29", x, 29);
        Check.opera(x, 6, 0, false, 1, 0, 1, 0, 0);
        Check.same("the longest one counts", lay(x, 3, 9, 19, 0, 2), -1);
        Check.same("18 is good for it", lay(x, 3, 9, 18, 0, 2), 0);
    }

    private static void noRoomForMore() {
        OperaHouse x = house(1);
        while (x.count(3) < 56) {
            x.call(20, 0, 0, 0, 0);
        }
        Check.same("five more than 60", lay(x, 1, 19, 20, 0, 0, 0, 0, 0), -1);
        Check.same("four are 60", lay(x, 1, 19, 20, 0, 0, 0, 0), 4);
        Check.same("kept", x.keep(), 60);
        Check.same("one more", lay(x, 1, 19, 20, 0), -1);
    }

    private static void plain() {
        OperaHouse x = house(3);
        Check.same("one", lay(x, 3, 9, 20, 0), 1);
        days("one", x, 3);
        Check.same("one day is enough", lay(x, 5, 5, 20, 1), 1);
        Check.same("two on one day are not", lay(x, 5, 5, 20, 1, 2), 0);
        days("no way", x);
        Check.same("three", lay(x, 4, 9, 20, 2, 0, 1), 3);
        days("three", x, 4, 5, 6);
        Check.same("six", lay(x, 3, 9, 20, 0, 1, 2, 0, 1, 2), 6);
        days("six", x, 3, 4, 5, 6, 7, 8);
        Check.same("an opera with no calls has no cast", Check.opera(x, 2, 0, false, 1, 0, 1, 0, 0), 3);
        Check.same("and can't be laid", lay(x, 3, 9, 20, 3), 0);
        Check.same("calls", x.count(3), 9);
        Check.same("nothing is wrong by it", x.wrong(0), 0);
    }

    private static void triesCount() {
        OperaHouse x = house(1);
        x.ill(0, 1, 4);
        Check.same("four days do not hold", lay(x, 1, 9, 20, 0), 5);
        days("four days do not hold", x, 5);
        Check.same("none holds", lay(x, 1, 4, 20, 0), 0);
        x.ill(0, 6, 6);
        Check.same("1, 2, 3, 4, 5; 6, 7", lay(x, 1, 9, 20, 0, 0), 7);
        days("1, 2, 3, 4, 5; 6, 7", x, 5, 7);
    }

    /** Opera 1 can be on day 4 alone, opera 0 on any; 0 needs rest. */
    private static void goingBack() {
        OperaHouse x = house(2);
        Check.contract(x, 0, "rest 71;leave 8 to 29;");
        Check.contract(x, 1, "leave 0 to 3;leave 5 to 29;");
        x.next(3);
        // 0 on 3; 1 on 4; 0 on 5, 6 (70 hours), 7
        Check.same("rest of 71 hours", lay(x, 3, 9, 20, 0, 1, 0), 1 + 1 + 3);
        days("rest of 71 hours", x, 3, 4, 7);
        Check.contract(x, 0, "rest 72;leave 5 to 29;");
        // 0 on 3, then 1 on 4, then 0 on 5..9: none; 1 on 5..9: none; 0 on 4; 1 on 5..9: none; 0 on 5..9: none
        Check.same("all ways", lay(x, 3, 9, 20, 0, 1, 0), 0);
        Check.contract(x, 0, "leave 3 to 3;");
        Check.contract(x, 1, "rest 0;leave 4 to 5;");
        Check.same("3; 4; 5, 6", lay(x, 3, 9, 20, 0, 1), 1 + 1 + 2);
        days("3; 4; 5, 6", x, 4, 6);
    }

    /** Six wishes where the last can never be: days 0 to 29 are tried over and over. */
    private static void givenUp() {
        OperaHouse x = house(2);
        Check.contract(x, 0, "week 7;rest 0;");
        Check.contract(x, 1, "leave 0 to 29;");
        x.next(1);
        Check.same("given up", lay(x, 1, 29, 20, 0, 0, 0, 0, 0, 1), -2);
        days("given up", x);
        Check.same("keep", x.keep(), -1);
        Check.same("calls", x.count(3), 6);
    }

    /** 0 on day d, then 1 on all days behind it: on 1 to n that is n (n + 1) / 2 tries. */
    private static void justNot() {
        OperaHouse x = house(2);
        Check.contract(x, 1, "leave 0 to 29;");
        x.next(1);
        Check.same("27 days are 378 tries", lay(x, 1, 27, 20, 0, 1), 0);
        Check.same("28 days are 406", lay(x, 1, 28, 20, 0, 1), -2);
        Check.contract(x, 0, "leave 22 to 22;");
        Check.same("six less are 400", lay(x, 1, 28, 20, 0, 1), 0);
        Check.contract(x, 0, "leave 23 to 23;");
        Check.same("five less are 401", lay(x, 1, 28, 20, 0, 1), -2);
        OperaHouse y = house(2);
        Check.contract(y, 1, "leave 0 to 28;");
        y.next(1);
        // 1 on 2 to 29 behind 0 on 1
        Check.same("behind all days that do not hold", lay(y, 1, 29, 20, 0, 1), 29);
        days("behind all days", y, 1, 29);
    }

    private static void laterDays() {
        OperaHouse x = house(2);
        Check.contract(x, 0, "leave 0 to 4;");
        Check.same("each on a later day than the one ahead", lay(x, 2, 9, 20, 0, 1), 4 + 1);
        days("each on a later day", x, 5, 6);
        Check.same("in their order", lay(x, 2, 9, 20, 1, 0), 1 + 3);
        days("in their order", x, 2, 5);
    }

    private static void halvesAndCasts() {
        OperaHouse x = new OperaHouse();
        Check.write(x, 5, 0, 0, 0, 0, 1, 0, 0);
        x.opera(2, 0, false, 1);
        x.players(0, 3, 2);
        x.singer(1, 1, 0);
        x.singer(1, 1, 0);
        rehearse(x, 0);
        int room = x.call(5, 20, 0, 0, 1);
        x.cast(room, 0, 1, false);
        Check.same("both halves play, so not on day 5", lay(x, 5, 9, 20, 0), 2);
        days("both halves play", x, 6);
        x.players(0, 3, 1);
        Check.same("too few of both", lay(x, 5, 9, 20, 0), 0);
        x.players(0, 3, 2);
        x.cast(0, 0, 1, false);
        Check.same("the cast of the least number", lay(x, 6, 9, 20, 0), 1);
        Check.same("kept", x.keep(), 5);
        Check.same("cast", x.who(4, 0, false, 0), 1);
        Check.same("no cover", x.who(4, 0, true, 0), -1);
        int n = x.wrong(0);
        for (int k = 0; k < n; k++) {
            Check.yes("a kept one is not wrong", x.told(k, 1) != 4);
        }
        Check.same("it is a night", x.learned(1, x.call(9, 0, 0, 0, 0), 0, 0), 2 + 2);
        Check.same("on its hour: one that begins then is crowded", Check.times(x, 0, 1, x.call(6, 21, 2, 0, 0), -1), 1);
        Check.same("with both halves", Check.times(x, 0, 5, x.call(6, 21, 0, 0, 2), -1), 1);
    }

    /** Nothing more may be wrong of other calls; what is wrong of them already may. */
    private static void othersStay() {
        OperaHouse x = house(1);
        int room = x.call(5, 20, 0, 0, 0);
        x.cast(room, 0, 0, false);
        Check.same("by number the night is behind the room, so not on 5", lay(x, 5, 9, 20, 0), 2);
        Check.same("an hour ahead the room would be wrong", lay(x, 5, 9, 19, 0), 2);
        x.cast(room, 0, -1, false);
        Check.same("nobody is in it", lay(x, 5, 9, 19, 0), 1);
        x.cast(room, 0, 0, false);
        int marks = x.call(5, 18, 1, 0, 0);
        x.cast(marks, 0, 0, false);
        Check.same("the room is wrong by kind 11 now, the night is, too", lay(x, 5, 9, 21, 0), 2);
        int wrongBefore = x.wrong(0);
        Check.same("calls stay", x.count(3), 5);
        Check.same("what is wrong stays", x.wrong(0), wrongBefore);
        OperaHouse y = house(1);
        y.cast(y.call(3, 10, 3, 0, 0), 0, 0, false);
        Check.contract(y, 0, "rest 0;fee 1;week 1;");
        Check.same("a later night would be the second of its week", lay(y, 1, 29, 20, 0), 10);
        days("a later night", y, 10);
    }

    /** Nights tried are numbered on as they are wished, and each makes the next one wrong. */
    private static void theirOwnNumbers() {
        OperaHouse x = house(1);
        Check.contract(x, 0, "week 2;");
        Check.same("two in a week", lay(x, 1, 29, 20, 0, 0, 0, 0), 1 + 1 + 6 + 1);
        days("two in a week", x, 1, 2, 8, 9);
        OperaHouse y = house(1);
        Check.contract(y, 0, "voice 2;");
        Check.same("a night tires by 2 for 2 hours", lay(y, 1, 29, 20, 0, 0), 2);
    }

    private static void keeping() {
        OperaHouse x = house(2);
        Check.same("nothing was laid", x.keep(), -1);
        lay(x, 2, 9, 20, 1, 0, 1);
        Check.same("kept", x.keep(), 9);
        Check.same("once", x.keep(), -1);
        days("laid still", x, 2, 3, 4);
        Check.same("casts", x.count(4), 9);
        int[] singers = {1, 0, 1};
        for (int k = 0; k < 3; k++) {
            Check.same("who sings " + k, x.who(6 + k, 0, false, 0), singers[k]);
        }
        Check.wrong("all holds", x, 0);
        Check.same("laid again behind these", lay(x, 2, 9, 20, 0), 1 + 3);
        days("laid again", x, 5);
        Check.same("kept again", x.keep(), 10);
        Check.same("a bad lay", lay(x, 9, 2, 20, 0), -1);
        Check.same("keeps none", x.keep(), -1);
    }

    private static boolean tell(OperaHouse x, int k) {
        switch (k) {
            case 0: return x.feed(0, 0, 0, 0, 0) > 0;
            case 1: return x.end(0);
            case 2: return x.next(1) > 0;
            case 3: return Check.opera(x, 2, 0, false, 1, 0, 1, 0, 0) > 0;
            case 4: return x.singer(0, 0, 0) > 0;
            case 5: return x.players(0, 1, 1);
            case 6: return x.chorus(24, 168);
            case 7: return x.contract(0) == 0;
            case 8: return x.learn(0, 0, 0, 1);
            case 9: return x.call(9, 0, 0, 0, 0) > 0;
            case 10: return x.cast(0, 0, -1, true);
            default: return x.ill(0, 29, 29);
        }
    }

    private static void toldSince() {
        for (int k = 0; k < 12; k++) {
            OperaHouse x = house(1);
            lay(x, 2, 9, 20, 0);
            Check.yes("told " + k, tell(x, k));
            Check.same("keep behind telling " + k, x.keep(), -1);
            Check.same("laid behind telling " + k, x.laid(0), 2);
        }
        OperaHouse x = house(1);
        lay(x, 2, 9, 20, 0);
        x.fault();
        x.who(0, 0, false, 0);
        x.wrong(0);
        x.learned(0, 0, 0, 0);
        x.tired(0, 0, 0);
        x.fee(0, 0, 0);
        x.pay(0, 9, 0);
        x.moves(0, 0);
        x.may(0, 0, 0);
        x.harm(0, 0, 0);
        x.instead(0, 0);
        x.laid(0);
        x.count(0);
        Check.throwsNothingSuch("told", x, 99, 0);
        x.cast(0, 0, 9, false);
        x.next(-1);
        x.call(30, 0, 0, 0, 0);
        Check.same("what is only asked, or refused, is not told", x.keep(), 4);
    }

    private static void tooManyCasts() {
        OperaHouse x = house(1);
        for (int k = x.count(4); k < 398; k++) {
            x.cast(0, 0, 0, false);
        }
        Check.same("laid", lay(x, 2, 9, 20, 0, 0, 0), 3);
        Check.same("401 casts", x.keep(), -1);
        Check.same("no call came", x.count(3), 3);
        Check.same("no cast came", x.count(4), 398);
        Check.same("laid", lay(x, 2, 9, 20, 0, 0), 2);
        Check.same("400 casts", x.keep(), 5);
        Check.same("400", x.count(4), 400);
    }

    /** An opera of three roles and one of one. */
    private static void manyRoles() {
        OperaHouse x = new OperaHouse();
        Check.opera(x, 2, 0, false, 1, 0, 1, 0, 0, 0, 1, 0, 0, 0, 1, 0, 0);
        Check.opera(x, 2, 0, false, 1, 0, 1, 0, 0);
        for (int s = 0; s < 5; s++) {
            x.singer(1, 1, 0);
        }
        int[] cast = {3, 0, 4};
        for (int o = 0; o < 2; o++) {
            for (int kind = 0; kind < 3; kind++) {
                int c = x.call(o, 8 + 3 * kind, kind, o, 0);
                for (int r = 0; r < (o == 0 ? 3 : 1); r++) {
                    x.cast(c, r, o == 0 ? cast[r] : 2, false);
                }
            }
        }
        Check.contract(x, 4, "leave 0 to 4;");
        Check.same("the third is away", lay(x, 2, 9, 20, 1, 0, 1), 1 + 3 + 1);
        days("the third is away", x, 2, 5, 6);
        x.who(0, 0, false, -1);
        x.wrong(-1);
        Check.same("kept", x.keep(), 9);
        Check.same("five casts more", x.count(4), 12 + 5);
        for (int r = 0; r < 3; r++) {
            Check.same("role " + r, x.who(7, r, false, 0), cast[r]);
            Check.same("role " + r + " of others", x.who(6, r, false, 0), r == 0 ? 2 : -1);
            Check.same("role " + r + " of others", x.who(8, r, false, 0), r == 0 ? 2 : -1);
        }
        Check.wrong("only who was away at the beginning", x, 0, 10, 0, 2, 10, 1, 2, 10, 2, 2);
        x.cast(0, 1, -1, false);
        Check.same("nobody in one role", lay(x, 8, 9, 20, 0), 0);
    }

    /** Nights tried ahead of all calls go again. */
    private static void firstOfAll() {
        OperaHouse x = house(1);
        Check.same("hour 0 of day 0, of day 1 (no rest), of day 2", lay(x, 0, 9, 0, 0), 3);
        days("hour 0", x, 2);
        Check.same("kept", x.keep(), 4);
        Check.wrong("all holds", x, 0);
        OperaHouse y = new OperaHouse();
        Check.opera(y, 2, 0, false, 1, 0, 1, 0, 0);
        Check.same("no call at all", lay(y, 0, 29, 0, 0), 0);
        Check.same("none yet", y.count(3), 0);
        OperaHouse z = house(1);
        z.ill(0, 1, 2);
        Check.same("none holds", lay(z, 0, 2, 0, 0), 0);
        Check.same("three calls", z.count(3), 3);
        Check.wrong("and nothing wrong", z, 0);
    }

    /** What is wrong of other calls already does not matter, what comes does, of the first call, too. */
    private static void wrongAlready() {
        OperaHouse x = house(1);
        int marks = x.call(0, 13, 1, 0, 0);
        x.call(3, 10, 3, 0, 0);
        Check.same("kinds 1, 7 and 7", x.wrong(0), 3);
        Check.same("kind 1", Check.times(x, 0, 1, 2, -1) + Check.times(x, 0, 1, marks, -1), 1);
        Check.same("held", lay(x, 5, 9, 20, 0), 1);
        OperaHouse y = new OperaHouse();
        Check.opera(y, 2, 0, false, 1, 0, 1, 0, 0);
        y.singer(1, 1, 0);
        y.call(7, 21, 0, 0, 0);
        y.cast(0, 0, 0, false);
        rehearse(y, 0);
        Check.same("call 0 would be twice", lay(y, 7, 9, 20, 0), 2);
        OperaHouse z = new OperaHouse();
        Check.opera(z, 2, 0, false, 1, 0, 1, 0, 0);
        Check.opera(z, 2, 0, false, 1, 0, 1, 0, 0);
        z.singer(1, 1, 0);
        z.singer(1, 1, 0);
        z.call(7, 21, 1, 1, 0);
        z.cast(0, 0, 1, false);
        rehearse(z, 0);
        Check.same("call 0 would be crowded", lay(z, 7, 9, 20, 0), 2);
        y.call(9, 21, 1, 0, 0);
        Check.same("the marks would be crowded", lay(y, 9, 9, 20, 0), 0);
        y.call(9, 20, 1, 0, 0);
        Check.same("crowded already by none", lay(y, 9, 9, 19, 0), 0);
    }

    private static void keepTellsToday() {
        OperaHouse x = house(1);
        x.next(4);
        lay(x, 5, 9, 20, 0);
        x.keep();
        Check.same("not known as of 3", x.who(3, 0, false, 3), -1);
        Check.same("known as of 4", x.who(3, 0, false, 4), 0);
        Check.same("vacant as of 3", Check.times(x, 3, 7, 3, 0), 1);
        // the cast as of today is laid, not one of another day
        OperaHouse y = house(1);
        y.singer(1, 1, 0);
        y.learn(1, 0, 0, 1);
        y.cast(0, 0, 1, false);
        lay(y, 5, 9, 20, 0);
        y.keep();
        Check.same("the latest cast", y.who(3, 0, false, 0), 1);
    }
}
