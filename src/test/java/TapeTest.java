/** Promises 1 to 4 and 29: a new object, feed, end, next, count. */
public final class TapeTest {
    public static void main(String[] args) {
        newObject();
        feeding();
        ending();
        days();
        counting();
        Check.end();
    }

    private static void newObject() {
        OperaHouse x = new OperaHouse();
        for (int what = 0; what <= 6; what++) {
            Check.same("new: count " + what, x.count(what), 0);
        }
        Check.same("NONE", OperaHouse.NONE, -1);
        Check.same("new: fault", x.fault(), 0);
        Check.same("new: wrong", x.wrong(0), 0);
        Check.same("new: laid", x.laid(0), -1);
        Check.same("new: keep", x.keep(), -1);
        Check.same("new: no opera", x.call(0, 0, 0, 0, 0), -1);
        Check.no("new: no singer", x.ill(0, 0, 0));
        Check.no("new: no call", x.cast(0, 0, -1, false));
        noPlayersButChorusHours();
    }

    private static void noPlayersButChorusHours() {
        OperaHouse x = new OperaHouse();
        Check.write(x, 1, 0, 0, 0, 0, 1, 0, 0);
        x.opera(6, 0, true, 1);
        x.singer(1, 1, 0);
        for (int k = 0; k < 4; k++) {
            x.call(0, 6 * k, 2, 0, 3);
            Check.same("no player is there", Check.times(x, 0, 4, k, -1), 1);
        }
        Check.same("24 hours of chorus are not more than daily", Check.times(x, 0, 6, 3, -1), 0);
        x.call(0, 21, 1, 0, 0);
        Check.same("24 and 3 are", Check.times(x, 0, 6, 4, -1), 1);
        OperaHouse y = new OperaHouse();
        Check.opera(y, 6, 0, true, 1, 0, 1, 0, 0);
        for (int day = 0; day < 7; day++) {
            for (int k = 0; k < 4; k++) {
                y.call(day, 6 * k, 2, 0, 0);
            }
        }
        Check.same("168 hours in a week are not more than weekly", Check.times(y, 0, 6, 27, -1), 0);
        oneHourMore();
    }

    private static void oneHourMore() {
        OperaHouse x = new OperaHouse();
        Check.opera(x, 6, 0, true, 1, 0, 1, 0, 0);
        Check.opera(x, 2, 0, true, 1, 0, 1, 0, 0);
        for (int k = 0; k < 3; k++) {
            x.call(0, 6 * k, 2, 0, 0);
        }
        x.call(0, 18, 1, 0, 0);
        x.call(0, 20, 2, 1, 0);
        int over = x.call(0, 22, 2, 1, 0);
        Check.same("23 hours of a day", Check.times(x, 0, 6, 4, -1), 0);
        Check.same("25 hours of a day", Check.times(x, 0, 6, over, -1), 1);
        OperaHouse y = new OperaHouse();
        Check.opera(y, 6, 0, true, 1, 0, 1, 0, 0);
        Check.opera(y, 2, 0, true, 1, 0, 1, 0, 0);
        for (int k = 0; k < 27; k++) {
            y.call(k / 4, k % 4 * 6, 2, 0, 0);
        }
        y.call(6, 17, 1, 0, 0);
        y.call(6, 18, 2, 1, 0);
        int last = y.call(6, 20, 2, 1, 0);
        Check.same("167 hours of a week", Check.times(y, 0, 6, 28, -1), 0);
        Check.same("169 hours of a week (though 25 of its day)", Check.times(y, 0, 6, last, -1), 1);
        y.call(7, 0, 2, 0, 0);
        Check.same("the week goes on", Check.times(y, 0, 6, 30, -1), 0);
        y.call(7, 6, 2, 0, 0);
        y.call(7, 12, 2, 0, 0);
        y.call(7, 18, 2, 0, 0);
        Check.same("169 hours of a week, 24 of its day", Check.times(y, 0, 6, 33, -1), 1);
    }

    private static void feeding() {
        OperaHouse x = new OperaHouse();
        for (int k = 1; k <= 17; k++) {
            Check.same("feed " + k, x.feed(0, 0, 0, 0, 0), 20 * k);
        }
        Check.same("feed beyond 340", x.feed(0, 0, 0, 0, 0), -1);
        Check.same("none came", x.count(6), 340);
        Check.yes("end 321", x.end(321));
        Check.same("feed beyond 340 from 321", x.feed(0, 0, 0, 0, 0), -1);
        Check.same("still 321", x.count(6), 321);
        Check.yes("end 320", x.end(320));
        Check.same("feed to 340", x.feed(0, 0, 0, 0, 0), 340);
        highestFirst();
    }

    private static void highestFirst() {
        OperaHouse x = new OperaHouse();
        x.singer(63, 63, 5);
        // "rest 10;" in two numbers
        x.feed(0x72657374, 0x2031303B, -1, -1, -1);
        x.end(8);
        Check.same("the highest first", x.contract(0), 1);
        // bytes of a number below 0: 0xFF is no token
        x.feed(0x72657374, 0x2031303B, 0xFF000000, 0, 0);
        x.end(9);
        Check.same("a byte of 255", x.contract(0), -9);
        x.feed(0x72657374, 0x20313020, 0x20202020, 0x20202020, 0x2020203B);
        Check.same("all twenty", x.contract(0), 1);
        x.feed(0x72657374, 0x20313020, 0x20202020, 0x20202020, 0x20202020);
        x.feed(0x3B202020, 0, 0, 0, 0);
        x.end(21);
        Check.same("one behind the other", x.contract(0), 1);
    }

    private static void ending() {
        OperaHouse x = new OperaHouse();
        Check.yes("end 0 of none", x.end(0));
        Check.no("end 1 of none", x.end(1));
        Check.no("end -1", x.end(-1));
        x.feed(1, 2, 3, 4, 5);
        Check.no("end 21 of 20", x.end(21));
        Check.no("end least", x.end(Integer.MIN_VALUE));
        Check.no("end most", x.end(Integer.MAX_VALUE));
        Check.same("all there yet", x.count(6), 20);
        Check.yes("end 20 of 20", x.end(20));
        Check.yes("end 3", x.end(3));
        Check.same("three left", x.count(6), 3);
        Check.no("the rest is gone", x.end(4));
    }

    private static void days() {
        OperaHouse x = new OperaHouse();
        Check.same("next 0", x.next(0), 0);
        Check.same("next -1", x.next(-1), -1);
        Check.same("next 30", x.next(30), -1);
        Check.same("next most", x.next(Integer.MAX_VALUE), -1);
        Check.same("next least", x.next(Integer.MIN_VALUE), -1);
        Check.same("next 4", x.next(4), 4);
        Check.same("behind 29", x.next(26), -1);
        Check.same("today stays", x.count(0), 4);
        Check.same("to 29", x.next(25), 29);
        Check.same("next 1 at 29", x.next(1), -1);
        Check.same("next 0 at 29", x.next(0), 29);
        Check.same("from 0 to 29", new OperaHouse().next(29), 29);
    }

    private static void counting() {
        OperaHouse x = new OperaHouse();
        x.next(3);
        Check.opera(x, 2, 0, false, 1, 0, 1, 0, 0);
        Check.opera(x, 2, 0, false, 1, 0, 1, 0, 0);
        for (int k = 0; k < 4; k++) {
            x.singer(1, 1, 1);
        }
        for (int k = 0; k < 5; k++) {
            x.call(4, k, 0, 0, 0);
        }
        for (int k = 0; k < 6; k++) {
            x.cast(0, 0, k % 2, k % 2 == 0);
        }
        for (int k = 0; k < 7; k++) {
            x.ill(0, k, k);
        }
        x.feed(0, 0, 0, 0, 0);
        x.end(8);
        int[] due = {3, 2, 4, 5, 6, 7, 8};
        for (int what = 0; what <= 6; what++) {
            Check.same("count " + what, x.count(what), due[what]);
        }
        Check.same("count -1", x.count(-1), -1);
        Check.same("count 7", x.count(7), -1);
        Check.same("count most", x.count(Integer.MAX_VALUE), -1);
    }
}
