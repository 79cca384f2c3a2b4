/** Promises 5 to 8: opera, singer, players, chorus. */
public final class HouseTest {
    public static void main(String[] args) {
        operaEdges();
        operaTape();
        operaNumbers();
        singers();
        players();
        chorus();
        Check.end();
    }

    private static int tell(OperaHouse x, int hours, int set, int need, int... bytes) {
        Check.write(x, bytes);
        int answer = x.opera(hours, set, false, need);
        Check.same("the tape is empty behind opera", x.count(6), 0);
        return answer;
    }

    private static void operaEdges() {
        OperaHouse x = new OperaHouse();
        int[] role = {0, 0, 0, 0, 0, 1, 0, 0};
        Check.same("hours 1", tell(x, 1, 0, 1, role), -1);
        Check.same("hours 7", tell(x, 7, 0, 1, role), -1);
        Check.same("set -1", tell(x, 2, -1, 1, role), -1);
        Check.same("set 4", tell(x, 2, 4, 1, role), -1);
        Check.same("need 0", tell(x, 2, 0, 0, role), -1);
        Check.same("need 61", tell(x, 2, 0, 61, role), -1);
        Check.same("none yet", x.count(1), 0);
        Check.same("the least", tell(x, 2, 0, 1, role), 0);
        Check.same("the most", tell(x, 6, 3, 60, 40, 40, 40, 40, 5, 30, 5, 9), 1);
        int[] edges = {41, 0, 0, 0, 6, 31, 6, 10};
        for (int k = 0; k < 8; k++) {
            int[] bytes = {0, 0, 0, 0, 0, 1, 0, 0};
            if (edges[k] == 0) {
                bytes[k] = 41;
            } else {
                bytes[k] = edges[k];
            }
            Check.same("byte " + k + " beyond", tell(x, 2, 0, 1, bytes), -1);
            bytes[k] = 255;
            Check.same("byte " + k + " of 255", tell(x, 2, 0, 1, bytes), -1);
        }
        Check.same("strain 0", tell(x, 2, 0, 1, 0, 0, 0, 0, 0, 0, 0, 0), -1);
        Check.same("two operas", x.count(1), 2);
    }

    private static void operaTape() {
        OperaHouse x = new OperaHouse();
        int[] sizes = {0, 3, 4, 7, 8, 9, 11, 12, 36, 37, 40, 60};
        int made = 0;
        for (int size : sizes) {
            int[] bytes = new int[size];
            for (int k = 4; k < size; k++) {
                bytes[k] = 1;
            }
            boolean good = size == 8 || size == 12 || size == 36;
            Check.same("opera of " + size + " bytes", tell(x, 2, 0, 1, bytes), good ? made : -1);
            made += good ? 1 : 0;
        }
        for (int r = 0; r < 9; r++) {
            x.call(0, 0, 0, 2, 0);
            Check.same("role " + r + " of eight", x.learn(0, 2, r, 1) ? 1 : 0, 0);
        }
        x.singer(0, 0, 0);
        for (int r = 0; r < 8; r++) {
            Check.yes("role " + r, x.learn(0, 2, r, 1));
        }
        Check.no("no ninth role", x.learn(0, 2, 8, 1));
        Check.no("one role alone", x.learn(0, 0, 1, 1));
        Check.yes("the last role bad", tell(x, 2, 0, 1, 0, 0, 0, 0, 1, 1, 1, 1, 1, 1, 1, 10) == -1);
    }

    private static void operaNumbers() {
        OperaHouse x = new OperaHouse();
        int[] role = {0, 0, 0, 0, 0, 1, 0, 0};
        for (int k = 0; k < 9; k++) {
            Check.same("opera " + k, tell(x, 2, 0, 1, role), k);
        }
        Check.same("a tenth opera", tell(x, 2, 0, 1, role), -1);
        Check.same("nine operas", x.count(1), 9);
        Check.same("call of opera 8", x.call(0, 0, 0, 8, 0), 0);
        Check.same("call of opera 9", x.call(0, 0, 0, 9, 0), -1);
    }

    private static void singers() {
        OperaHouse x = new OperaHouse();
        Check.same("voices -1", x.singer(-1, 0, 0), -1);
        Check.same("voices 64", x.singer(64, 0, 0), -1);
        Check.same("tongues -1", x.singer(0, -1, 0), -1);
        Check.same("tongues 64", x.singer(0, 64, 0), -1);
        Check.same("size -1", x.singer(0, 0, -1), -1);
        Check.same("size 10", x.singer(0, 0, 10), -1);
        Check.same("none yet", x.count(2), 0);
        Check.same("the most", x.singer(63, 63, 9), 0);
        for (int k = 1; k < 20; k++) {
            Check.same("singer " + k, x.singer(0, 0, 0), k);
        }
        Check.same("a 21st", x.singer(0, 0, 0), -1);
        Check.same("twenty", x.count(2), 20);
        suiting();
        noText();
    }

    /** Of roles of voice 2, tongue 3, size 5: who suits. */
    private static void suiting() {
        OperaHouse x = new OperaHouse();
        Check.opera(x, 2, 0, false, 1, 2, 1, 3, 5);
        int[][] people = {{4, 8, 5}, {4, 8, 4}, {4, 8, 6}, {4, 8, 3}, {4, 8, 7}, {59, 8, 5}, {4, 55, 5}, {63, 63, 5}};
        boolean[] suits = {true, true, true, false, false, false, false, true};
        for (int s = 0; s < people.length; s++) {
            x.singer(people[s][0], people[s][1], people[s][2]);
            int c = x.call(s, 0, 0, 0, 0);
            x.cast(c, 0, s, false);
            Check.same("singer " + s + " suits", Check.times(x, 0, 8, c, 0), suits[s] ? 0 : 1);
        }
    }

    /** A contract of no text: rest 12, day 8, week 4, voice 100, no leaves, no fees. */
    private static void noText() {
        OperaHouse x = new OperaHouse();
        Check.opera(x, 2, 0, false, 1, 0, 30, 0, 0);
        x.singer(1, 1, 0);
        int[] hours = {0, 2, 4, 6, 8, 10};
        for (int h : hours) {
            x.cast(x.call(0, h, 0, 0, 0), 0, 0, false);
        }
        x.cast(x.call(0, 12, 0, 0, 0), 0, 0, false);
        Check.same("12 hours are not more than 8 and 4", Check.times(x, 0, 13, 5, 0), 0);
        Check.same("14 are", Check.times(x, 0, 13, 6, 0), 1);
        Check.same("no fees", x.pay(0, 29, 0), 0);
        OperaHouse y = new OperaHouse();
        Check.opera(y, 6, 0, false, 1, 0, 1, 0, 0);
        y.singer(1, 1, 0);
        y.cast(y.call(0, 18, 2, 0, 0), 0, 0, false);
        y.cast(y.call(1, 11, 0, 0, 0), 0, 0, false);
        y.cast(y.call(1, 12, 0, 0, 0), 0, 0, false);
        Check.same("11 hours of rest", Check.times(y, 0, 12, 1, 0), 1);
        Check.same("12 hours of rest", Check.times(y, 0, 12, 2, 0), 0);
        noTextWeekAndVoice();
    }

    private static void noTextWeekAndVoice() {
        OperaHouse x = new OperaHouse();
        Check.opera(x, 2, 0, false, 1, 0, 25, 0, 0);
        x.singer(1, 1, 0);
        for (int k = 0; k < 5; k++) {
            x.cast(x.call(3 + k, 0, 3, 0, 0), 0, 0, false);
        }
        Check.same("four nights in a week", Check.times(x, 0, 14, 3, 0), 0);
        Check.same("five nights", Check.times(x, 0, 14, 4, 0), 1);
        OperaHouse y = new OperaHouse();
        Check.opera(y, 2, 0, false, 1, 0, 25, 0, 0, 0, 25, 0, 0, 0, 1, 0, 0);
        y.singer(1, 1, 0);
        int c = y.call(0, 0, 3, 0, 0);
        y.cast(c, 0, 0, false);
        y.cast(c, 1, 0, false);
        Check.same("100 are not more than 100", Check.times(y, 0, 15, c, 0), 0);
        int d = y.call(0, 1, 2, 0, 0);
        y.cast(d, 2, 0, false);
        Check.same("99 and 1 are not", Check.times(y, 0, 15, d, 2), 0);
        int e = y.call(0, 1, 2, 0, 0);
        y.cast(e, 2, 0, false);
        Check.same("101 are", Check.times(y, 0, 15, e, 2), 1);
    }

    private static void players() {
        OperaHouse x = new OperaHouse();
        Check.no("group -1", x.players(-1, 0, 0));
        Check.no("group 4", x.players(4, 0, 0));
        Check.no("one -1", x.players(0, -1, 0));
        Check.no("one 61", x.players(0, 61, 0));
        Check.no("other -1", x.players(0, 0, -1));
        Check.no("other 61", x.players(0, 0, 61));
        Check.yes("most", x.players(3, 60, 60));
        Check.yes("none", x.players(3, 0, 0));
        Check.write(x, 0, 10, 0, 7, 0, 1, 0, 0);
        x.opera(2, 0, false, 1);
        int[] there = new int[4];
        for (int halves = 0; halves < 4; halves++) {
            there[halves] = x.call(halves, 0, 2, 0, halves);
        }
        x.players(1, 6, 4);
        x.players(3, 7, 7);
        lacks(x, there, 1, 1, 1, 0);
        x.players(1, 10, 10);
        lacks(x, there, 1, 0, 0, 0);
        x.players(3, 6, 7);
        lacks(x, there, 1, 1, 0, 0);
        x.players(3, 7, 0);
        lacks(x, there, 1, 0, 1, 0);
        x.players(3, 7, 61);
        lacks(x, there, 1, 0, 1, 0);
        x.players(3, 3, 3);
        lacks(x, there, 1, 1, 1, 1);
    }

    private static void lacks(OperaHouse x, int[] there, int... due) {
        for (int halves = 0; halves < 4; halves++) {
            Check.same("players lack in halves " + halves, Check.times(x, 0, 4, there[halves], -1), due[halves]);
        }
    }

    private static void chorus() {
        OperaHouse x = new OperaHouse();
        Check.no("daily -1", x.chorus(-1, 0));
        Check.no("daily 25", x.chorus(25, 0));
        Check.no("weekly -1", x.chorus(0, -1));
        Check.no("weekly 169", x.chorus(0, 169));
        Check.yes("the most", x.chorus(24, 168));
        Check.yes("the least", x.chorus(0, 0));
        Check.opera(x, 2, 0, true, 1, 0, 1, 0, 0);
        x.call(0, 0, 1, 0, 0);
        Check.same("any hour is too much", Check.times(x, 0, 6, 0, -1), 1);
        x.chorus(3, 3);
        Check.same("just enough", Check.times(x, 0, 6, 0, -1), 0);
        x.chorus(2, 3);
        Check.same("too much of a day", Check.times(x, 0, 6, 0, -1), 1);
        x.chorus(3, 2);
        Check.same("too much of a week", Check.times(x, 0, 6, 0, -1), 1);
        x.chorus(3, 3);
        x.chorus(25, 2);
        Check.same("a refused one changes nothing", Check.times(x, 0, 6, 0, -1), 0);
    }
}
