/**
 * Every number that a call takes: the first and the last one that is as told, those next to them that are not,
 * and far ones that would be good if they wrapped around. Promises 2 to 29.
 */
public final class ArgumentTest {
    private static final int[] ROLE = {0, 0, 0, 0, 0, 1, 0, 0};

    public static void main(String[] args) {
        feed();
        end();
        next();
        opera();
        operaBytes();
        operaBytesOfLaterRoles();
        singer();
        players();
        chorus();
        contract();
        learn();
        callDay();
        callHour();
        callOthers();
        cast();
        ill();
        who();
        told();
        learned();
        tiredAndFee();
        pay();
        moves();
        may();
        harm();
        instead();
        lay();
        layHour();
        laid();
        count();
        Check.end();
    }

    /** Two operas of two roles, three singers, two calls, of opera 1 and of opera 0, on day 9. */
    private static OperaHouse house() {
        OperaHouse x = new OperaHouse();
        for (int o = 0; o < 2; o++) {
            Check.opera(x, 4, 0, false, 1, 0, 1, 0, 0, 0, 1, 0, 0);
        }
        for (int s = 0; s < 3; s++) {
            x.singer(1, 1, 0);
        }
        x.call(9, 10, 0, 1, 0);
        x.call(9, 15, 1, 0, 0);
        return x;
    }

    private static OperaHouse houseOn(int today) {
        OperaHouse x = house();
        x.next(today);
        return x;
    }

    /** Any number can be fed: it is four bytes, the highest first. */
    private static void feed() {
        OperaHouse x = new OperaHouse();
        x.singer(0, 0, 0);
        int[] wild = {0, -1, 1, Integer.MIN_VALUE, Integer.MAX_VALUE};
        for (int k = 0; k < 5; k++) {
            int answer = x.feed(wild[k], wild[(k + 1) % 5], wild[(k + 2) % 5], wild[(k + 3) % 5], wild[(k + 4) % 5]);
            Check.same("wild numbers, feed " + k, answer, 20 * (k + 1));
        }
        int[] places = {0, 1, 2, 3, 19};
        for (int place : places) {
            int[] n = new int[5];
            for (int k = 0; k < 20; k++) {
                n[k / 4] = n[k / 4] << 8 | (k == place ? 0x80 : ' ');
            }
            x.end(0);
            x.feed(n[0], n[1], n[2], n[3], n[4]);
            Check.same("the byte of 128 is at " + place, x.contract(0), -1 - place);
        }
    }

    private static void end() {
        Check.range("end of none", 0, 0, n -> new OperaHouse().end(n));
        Check.range("end of 20", 0, 20, n -> {
            OperaHouse x = new OperaHouse();
            x.feed(0, 0, 0, 0, 0);
            boolean answer = x.end(n);
            Check.same("bytes behind end " + n, x.count(6), answer ? n : 20);
            return answer;
        });
        Check.range("end of 340", 0, 340, n -> {
            OperaHouse x = new OperaHouse();
            for (int k = 0; k < 17; k++) {
                x.feed(0, 0, 0, 0, 0);
            }
            return x.end(n);
        });
    }

    private static void next() {
        int[] days = {0, 1, 15, 28, 29};
        for (int today : days) {
            Check.range("next on day " + today, 0, 29 - today, n -> {
                OperaHouse x = new OperaHouse();
                x.next(today);
                int answer = x.next(n);
                Check.same("today behind next " + n, x.count(0), answer == -1 ? today : today + n);
                return answer != -1;
            });
        }
    }

    private static int tell(int hours, int set, int need, int... bytes) {
        OperaHouse x = new OperaHouse();
        Check.write(x, bytes);
        int answer = x.opera(hours, set, true, need);
        Check.same("operas behind that", x.count(1), answer + 1);
        Check.same("the tape is empty", x.count(6), 0);
        return answer;
    }

    private static void opera() {
        Check.range("hours of an opera", 2, 6, n -> tell(n, 0, 1, ROLE) == 0);
        Check.range("its set", 0, 3, n -> tell(2, n, 1, ROLE) == 0);
        Check.range("its need", 1, 60, n -> tell(2, 0, n, ROLE) == 0);
        for (int bytes = 0; bytes <= 60; bytes++) {
            int[] all = new int[bytes];
            for (int k = 4; k < bytes; k++) {
                all[k] = 1;
            }
            boolean good = bytes >= 8 && bytes <= 36 && bytes % 4 == 0;
            Check.same("an opera of " + bytes + " bytes", tell(2, 0, 1, all), good ? 0 : -1);
        }
        int[] much = new int[340];
        java.util.Arrays.fill(much, 1);
        Check.same("an opera of 340 bytes", tell(2, 0, 1, much), -1);
    }

    /** What the tape's bytes can be: all 256 of them, one by one. */
    private static void operaBytes() {
        int[] low = {0, 0, 0, 0, 0, 1, 0, 0};
        int[] high = {40, 40, 40, 40, 5, 30, 5, 9};
        for (int k = 0; k < 8; k++) {
            for (int b = 0; b < 256; b++) {
                int[] bytes = ROLE.clone();
                bytes[k] = b;
                boolean good = b >= low[k] && b <= high[k];
                Check.same("byte " + k + " is " + b, tell(2, 0, 1, bytes), good ? 0 : -1);
            }
        }
    }

    private static void operaBytesOfLaterRoles() {
        int[] low = {0, 1, 0, 0};
        int[] high = {5, 30, 5, 9};
        for (int roles = 2; roles <= 8; roles++) {
            for (int k = 0; k < 4; k++) {
                int[] edges = {low[k] - 1, low[k], high[k], high[k] + 1};
                for (int b : edges) {
                    int[] bytes = new int[4 + 4 * roles];
                    java.util.Arrays.fill(bytes, 4, bytes.length, 1);
                    bytes[4 * roles + k] = b & 255;
                    boolean good = b >= low[k] && b <= high[k];
                    Check.same("number " + k + " of role " + roles + " is " + b, tell(2, 0, 1, bytes), good ? 0 : -1);
                }
            }
        }
    }

    private static boolean isSinger(int voices, int tongues, int size) {
        OperaHouse x = new OperaHouse();
        int answer = x.singer(voices, tongues, size);
        Check.same("singers behind that", x.count(2), answer + 1);
        return answer == 0;
    }

    private static void singer() {
        Check.range("voices", 0, 63, n -> isSinger(n, 0, 0));
        Check.range("tongues", 0, 63, n -> isSinger(0, n, 0));
        Check.range("a singer's size", 0, 9, n -> isSinger(0, 0, n));
    }

    private static void players() {
        Check.range("a group", 0, 3, n -> new OperaHouse().players(n, 1, 1));
        for (int g = 0; g < 4; g++) {
            int group = g;
            Check.range("players of the one half", 0, 60, n -> new OperaHouse().players(group, n, 0));
            Check.range("players of the other half", 0, 60, n -> new OperaHouse().players(group, 0, n));
        }
    }

    private static void chorus() {
        Check.range("daily", 0, 24, n -> new OperaHouse().chorus(n, 0));
        Check.range("weekly", 0, 168, n -> new OperaHouse().chorus(0, n));
    }

    private static void contract() {
        Check.range("contract", 0, 2, n -> {
            OperaHouse x = house();
            Check.write(x, "fee 1;");
            int answer = x.contract(n);
            Check.same("the tape behind contract " + n, x.count(6), 0);
            Check.yes("a rule or no such singer", answer == 1 || answer == -1000);
            return answer == 1;
        });
    }

    private static void learn() {
        Check.range("learn's singer", 0, 2, n -> house().learn(n, 0, 0, 1));
        Check.range("learn's opera", 0, 1, n -> house().learn(0, n, 0, 1));
        Check.range("learn's role", 0, 1, n -> house().learn(0, 1, n, 1));
        Check.range("learn's hours", 1, 99, n -> {
            OperaHouse x = house();
            boolean answer = x.learn(0, 1, 0, n);
            Check.same("learned behind that", x.learned(0, 0, 0, 0), answer ? n : 0);
            return answer;
        });
    }

    /** "its DAY behind TODAY or TODAY" */
    private static void callDay() {
        int[] days = {0, 1, 14, 29};
        for (int today : days) {
            Check.range("a call's day on day " + today, today, 29, n -> {
                OperaHouse x = houseOn(today);
                int answer = x.call(n, 0, 0, 0, 0);
                Check.same("calls behind that", x.count(3), answer == -1 ? 2 : 3);
                return answer == 2;
            });
        }
    }

    /** "it ends by HOUR 24": two hours, three, and the opera's two times. */
    private static void callHour() {
        for (int hours = 2; hours <= 6; hours++) {
            int[] length = {2, 3, hours, hours};
            for (int kind = 0; kind < 4; kind++) {
                int h = hours;
                int k = kind;
                for (int day = 0; day <= 29; day += 29) {
                    int d = day;
                    Check.range("the hour of kind " + kind + " of " + hours + " hours", 0, 24 - length[kind],
                            n -> Check.plainHouse(h, 1, 1, 0).call(d, n, k, 0, 0) == 0);
                }
            }
        }
    }

    private static void callOthers() {
        Check.range("a call's kind", 0, 3, n -> house().call(0, 0, n, 0, 0) == 2);
        Check.range("a call's opera", 0, 1, n -> house().call(0, 0, 0, n, 0) == 2);
        Check.range("a call's halves", 0, 3, n -> house().call(0, 0, 0, 0, n) == 2);
        Check.same("no opera, no call", new OperaHouse().call(0, 0, 0, 0, 0), -1);
    }

    private static void cast() {
        for (int k = 0; k < 2; k++) {
            boolean cover = k == 1;
            Check.range("cast's call", 0, 1, n -> house().cast(n, 0, 0, cover));
            Check.range("cast's role", 0, 1, n -> house().cast(0, n, 0, cover));
            Check.range("cast's singer, or nobody", -1, 2, n -> {
                OperaHouse x = house();
                boolean answer = x.cast(1, 1, n, cover);
                Check.same("who behind that", x.who(1, 1, cover, 0), answer ? n : -1);
                Check.same("casts behind that", x.count(4), answer ? 1 : 0);
                return answer;
            });
        }
        // "told on the CALL's DAY or ahead"
        int[] days = {0, 8, 9, 10, 29};
        for (int today : days) {
            Check.same("cast on day " + today, houseOn(today).cast(0, 0, 0, false) ? 1 : 0, today <= 9 ? 1 : 0);
            Check.same("cover on day " + today, houseOn(today).cast(0, 0, -1, true) ? 1 : 0, today <= 9 ? 1 : 0);
        }
    }

    private static void ill() {
        Check.range("who is ill", 0, 2, n -> house().ill(n, 3, 4));
        int[] days = {0, 1, 17, 29};
        for (int day : days) {
            Check.range("ill from, to " + day, 0, day, n -> house().ill(0, n, day));
            Check.range("ill to, from " + day, day, 29, n -> house().ill(0, day, n));
        }
        for (int today : days) {
            Check.range("ill from, told on " + today, 0, 29, n -> houseOn(today).ill(0, n, 29));
        }
    }

    private static void who() {
        for (int k = 0; k < 2; k++) {
            boolean cover = k == 1;
            OperaHouse x = house();
            for (int c = 0; c < 2; c++) {
                for (int r = 0; r < 2; r++) {
                    x.cast(c, r, 1, cover);
                }
            }
            Check.range("who's call", 0, 1, n -> x.who(n, 0, cover, 0) == 1);
            Check.range("who's role", 0, 1, n -> x.who(1, n, cover, 0) == 1);
            Check.same("the other kind of cast", x.who(0, 0, !cover, 0), -1);
        }
    }

    private static boolean tells(OperaHouse x, int k, int what) {
        try {
            x.told(k, what);
            return true;
        } catch (java.util.NoSuchElementException e) {
            return false;
        }
    }

    private static void told() {
        OperaHouse x = house();
        Check.same("four roles are vacant", x.wrong(0), 4);
        Check.range("told's k", 0, 3, n -> tells(x, n, 0));
        Check.range("told's what", 0, 2, n -> tells(x, 3, n));
        OperaHouse none = new OperaHouse();
        none.wrong(0);
        Check.no("told 0 of none", tells(none, 0, 0));
        Check.no("told -1 of none", tells(none, -1, 0));
    }

    private static void learned() {
        OperaHouse x = house();
        for (int s = 0; s < 3; s++) {
            for (int o = 0; o < 2; o++) {
                x.learn(s, o, 0, 5);
                x.learn(s, o, 1, 5);
            }
        }
        Check.range("learned's singer", 0, 2, n -> x.learned(n, 0, 0, 0) == 5);
        Check.range("learned's call", 0, 1, n -> x.learned(0, n, 0, 0) == 5);
        Check.range("learned's role", 0, 1, n -> x.learned(0, 0, n, 0) == 5);
        int[] refused = {x.learned(3, 0, 0, 0), x.learned(-1, 0, 0, 0), x.learned(0, 2, 0, 0), x.learned(0, -1, 0, 0),
            x.learned(0, 0, 2, 0), x.learned(0, 0, -1, 0)};
        for (int answer : refused) {
            Check.same("learned by no such ones", answer, -1);
        }
    }

    private static void tiredAndFee() {
        OperaHouse x = house();
        Check.range("tired's singer", 0, 2, n -> x.tired(n, 0, 0) == 0);
        Check.range("tired's call", 0, 1, n -> x.tired(0, n, 0) == 0);
        Check.range("fee's singer", 0, 2, n -> x.fee(n, 0, 0) == 0);
        Check.range("fee's call", 0, 1, n -> x.fee(0, n, 0) == 0);
        int[] refused = {x.tired(3, 0, 0), x.tired(-1, 0, 0), x.tired(0, 2, 0), x.tired(0, -1, 0), x.fee(3, 0, 0),
            x.fee(-1, 0, 0), x.fee(0, 2, 0), x.fee(0, -1, 0)};
        for (int answer : refused) {
            Check.same("tired, fee of no such ones", answer, -1);
        }
    }

    private static void pay() {
        OperaHouse x = house();
        Check.range("pay's singer", 0, 2, n -> x.pay(n, 0, 0) == 0);
        Check.range("pay's day", 0, 29, n -> x.pay(0, n, 0) == 0);
        Check.same("pay of no such singer", x.pay(3, 0, 0), -1);
        Check.same("pay by no such day", x.pay(0, 30, 0), -1);
    }

    private static void moves() {
        OperaHouse x = new OperaHouse();
        Check.range("moves' set", 0, 3, n -> x.moves(n, 40) >= 0);
        Check.range("so many moves", 0, 40, n -> x.moves(0, n) == 0);
        for (int set = 1; set < 4; set++) {
            int s = set;
            Check.range("so many moves for set " + set, 3, 40, n -> x.moves(s, n) == 3);
        }
    }

    private static void may() {
        OperaHouse x = house();
        Check.range("may's singer", 0, 2, n -> x.may(n, 0, 0));
        Check.range("may's call", 0, 1, n -> x.may(0, n, 0));
        Check.range("may's role", 0, 1, n -> x.may(0, 0, n));
        // "its DAY not ahead of TODAY"
        int[] days = {0, 8, 9, 10, 29};
        for (int today : days) {
            OperaHouse y = houseOn(today);
            Check.same("may on day " + today, y.may(0, 0, 0) ? 1 : 0, today <= 9 ? 1 : 0);
            Check.same("instead on day " + today, y.instead(0, 0), today <= 9 ? 0 : -1);
            Check.same("harm on day " + today, y.harm(0, 0, 0), 110);
        }
    }

    private static void harm() {
        OperaHouse x = house();
        Check.range("harm's singer", 0, 2, n -> x.harm(n, 0, 0) == 110);
        Check.range("harm's call", 0, 1, n -> x.harm(0, n, 0) == 110);
        Check.range("harm's role", 0, 1, n -> x.harm(0, 0, n) == 110);
        int[] refused = {x.harm(3, 0, 0), x.harm(-1, 0, 0), x.harm(0, 2, 0), x.harm(0, -1, 0), x.harm(0, 0, 2),
            x.harm(0, 0, -1)};
        for (int answer : refused) {
            Check.same("harm of no such ones", answer, -1);
        }
    }

    private static void instead() {
        OperaHouse x = house();
        Check.range("instead's call", 0, 1, n -> x.instead(n, 0) == 0);
        Check.range("instead's role", 0, 1, n -> x.instead(0, n) == 0);
        int[] refused = {x.instead(2, 0), x.instead(-1, 0), x.instead(0, 2), x.instead(0, -1)};
        for (int answer : refused) {
            Check.same("instead of no such ones", answer, -1);
        }
    }

    /** A house whose opera has no calls: its nights are never held, so that lay tells 0 where all is as told. */
    private static int layOn(int today, int first, int last, int hour, int... wishes) {
        OperaHouse x = Check.plainHouse(4, 1, 2, 1);
        x.next(today);
        Check.write(x, wishes);
        int answer = x.lay(first, last, hour);
        Check.same("the tape behind lay", x.count(6), 0);
        Check.same("calls behind lay", x.count(3), 0);
        return answer;
    }

    private static void lay() {
        int[] days = {0, 1, 14, 29};
        for (int today : days) {
            Check.range("the first day, last 29, today " + today, today, 29, n -> layOn(today, n, 29, 0, 0) == 0);
            Check.range("the last day, first and today " + today, today, 29, n -> layOn(today, today, n, 0, 0) == 0);
        }
        Check.range("the first day, last 14", 0, 14, n -> layOn(0, n, 14, 0, 0) == 0);
        for (int bytes = 0; bytes <= 40; bytes++) {
            int answer = layOn(0, 3, 3, 0, new int[bytes]);
            Check.same("nights of " + bytes + " bytes", answer, bytes >= 1 && bytes <= 6 ? 0 : -1);
        }
        for (int b = 0; b < 256; b++) {
            Check.same("an opera of number " + b, layOn(0, 3, 3, 0, b), b < 2 ? 0 : -1);
            Check.same("the sixth opera of number " + b, layOn(0, 3, 3, 0, 0, 1, 0, 1, 0, b), b < 2 ? 0 : -1);
        }
        Check.same("no opera at all", noOpera(), -1);
    }

    private static int noOpera() {
        OperaHouse x = new OperaHouse();
        Check.write(x, 0);
        return x.lay(0, 29, 0);
    }

    /** "one that ends behind HOUR 24, too" */
    private static void layHour() {
        for (int hours = 2; hours <= 6; hours++) {
            int h = hours;
            Check.range("the hour of nights of " + hours + " hours", 0, 24 - hours, n -> {
                OperaHouse x = Check.plainHouse(h, 1, 1, 0);
                Check.write(x, 0);
                return x.lay(0, 0, n) == 0;
            });
        }
        Check.range("the hour where the second one is the longest", 0, 18, n -> {
            OperaHouse x = Check.plainHouse(2, 1, 1, 0);
            Check.opera(x, 6, 0, false, 1, 0, 1, 0, 0);
            Check.write(x, 0, 1, 0);
            return x.lay(0, 0, n) == 0;
        });
    }

    private static void laid() {
        OperaHouse x = Check.plainHouse(2, 1, 1, 1);
        for (int kind = 0; kind < 3; kind++) {
            Check.castCall(x, 0, 3 * kind, kind, 0, 0);
        }
        Check.write(x, 0, 0, 0);
        Check.same("three nights", x.lay(2, 29, 20), 3);
        Check.range("laid's k", 0, 2, n -> x.laid(n) == 2 + n);
        Check.same("laid -1", x.laid(-1), -1);
        Check.same("laid 3", x.laid(3), -1);
    }

    private static void count() {
        OperaHouse x = house();
        Check.range("count", 0, 6, n -> x.count(n) >= 0);
        Check.same("count -1", x.count(-1), -1);
        Check.same("count 7", x.count(7), -1);
    }
}
