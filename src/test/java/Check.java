import java.util.NoSuchElementException;
import java.util.function.IntPredicate;

/** What the tests share: answers held against what is due, and texts put on the tape. */
final class Check {
    private static int failed;

    private Check() {
    }

    static void same(String what, long got, long due) {
        if (got != due) {
            failed++;
            System.out.println(what + ": answered " + got + ", due is " + due);
        }
    }

    static void yes(String what, boolean got) {
        same(what, got ? 1 : 0, 1);
    }

    static void no(String what, boolean got) {
        same(what, got ? 1 : 0, 0);
    }

    /** Ends the test: 1, if any answer was not as due. */
    static void end() {
        System.out.println(failed == 0 ? "all answers are as due" : failed + " answers are not as due");
        if (failed != 0) {
            System.exit(1);
        }
    }

    /** Bytes come behind the tape. */
    static void write(OperaHouse x, int... bytes) {
        int start = x.count(6);
        for (int at = 0; at < bytes.length; at += 20) {
            int[] n = new int[5];
            for (int k = 0; k < 20; k++) {
                int b = at + k < bytes.length ? bytes[at + k] & 255 : 0;
                n[k / 4] = n[k / 4] << 8 | b;
            }
            x.feed(n[0], n[1], n[2], n[3], n[4]);
        }
        x.end(start + bytes.length);
    }

    static void write(OperaHouse x, String text) {
        int[] bytes = new int[text.length()];
        for (int k = 0; k < bytes.length; k++) {
            bytes[k] = text.charAt(k);
        }
        write(x, bytes);
    }

    static int contract(OperaHouse x, int s, String text) {
        write(x, text);
        return x.contract(s);
    }

    /** An opera of some roles (voice, strain, tongue, size each), with no seats. */
    static int opera(OperaHouse x, int hours, int set, boolean chorus, int need, int... roles) {
        int[] bytes = new int[4 + roles.length];
        System.arraycopy(roles, 0, bytes, 4, roles.length);
        write(x, bytes);
        return x.opera(hours, set, chorus, need);
    }

    /** Operas of one role that anybody of voice 0, tongue 0 and size 0 suits, with no seats and set 0. */
    static OperaHouse plainHouse(int hours, int need, int operas, int singers) {
        OperaHouse x = new OperaHouse();
        for (int o = 0; o < operas; o++) {
            opera(x, hours, 0, false, need, 0, 1, 0, 0);
        }
        for (int s = 0; s < singers; s++) {
            x.singer(1, 1, 0);
        }
        return x;
    }

    /** A call without an orchestra whose role 0 a singer has. */
    static int castCall(OperaHouse x, int day, int hour, int kind, int o, int s) {
        int c = x.call(day, hour, kind, o, 0);
        x.cast(c, 0, s, false);
        return c;
    }

    static String repeat(String text, int n) {
        StringBuilder b = new StringBuilder();
        for (int k = 0; k < n; k++) {
            b.append(text);
        }
        return b.toString();
    }

    /** The first and the last number are taken; the ones next to them, and far ones that may wrap around, are not. */
    static void range(String what, int low, int high, IntPredicate takes) {
        yes(what + " takes " + low, takes.test(low));
        yes(what + " takes " + high, takes.test(high));
        no(what + " takes " + (low - 1), takes.test(low - 1));
        no(what + " takes " + (high + 1), takes.test(high + 1));
        for (int far : new int[] {Integer.MIN_VALUE, Integer.MIN_VALUE + 1, Integer.MAX_VALUE, Integer.MAX_VALUE - 1}) {
            no(what + " takes " + far, takes.test(far));
        }
        for (int shift = 8; shift < 32; shift++) {
            for (int far : new int[] {low + (1 << shift), high - (1 << shift)}) {
                same(what + " takes " + far, takes.test(far) ? 1 : 0, far >= low && far <= high ? 1 : 0);
            }
        }
    }

    static void throwsNothingSuch(String what, OperaHouse x, int k, int which) {
        boolean thrown = false;
        try {
            x.told(k, which);
        } catch (NoSuchElementException e) {
            thrown = true;
        }
        yes(what + " throws", thrown);
    }

    /** All that is wrong as of t: kind, call, role, three numbers each. */
    static void wrong(String what, OperaHouse x, int t, int... due) {
        int n = x.wrong(t);
        same(what + ": how much is wrong", n, due.length / 3);
        for (int k = 0; k < n && k < due.length / 3; k++) {
            same(what + ": kind of " + k, x.told(k, 0), due[3 * k]);
            same(what + ": call of " + k, x.told(k, 1), due[3 * k + 1]);
            same(what + ": role of " + k, x.told(k, 2), due[3 * k + 2]);
        }
    }

    /** How often a kind is wrong of a call and a role (-1: kinds 1 to 6), as of t. */
    static int times(OperaHouse x, int t, int kind, int c, int r) {
        int n = x.wrong(t);
        int sum = 0;
        for (int k = 0; k < n; k++) {
            sum += x.told(k, 0) == kind && x.told(k, 1) == c && x.told(k, 2) == r ? 1 : 0;
        }
        return sum;
    }

    /** All that is wrong as of t, asked once, so that the house stays within the calls that are promised. */
    static int[][] wrongs(OperaHouse x, int t) {
        int[][] all = new int[x.wrong(t)][3];
        for (int k = 0; k < all.length; k++) {
            for (int what = 0; what < 3; what++) {
                all[k][what] = x.told(k, what);
            }
        }
        return all;
    }

    static int times(int[][] wrongs, int kind, int c, int r) {
        int sum = 0;
        for (int[] w : wrongs) {
            sum += w[0] == kind && w[1] == c && w[2] == r ? 1 : 0;
        }
        return sum;
    }
}
