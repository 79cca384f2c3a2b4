import java.util.NoSuchElementException;

/** What the tests share: answers held against what is due, and texts put on the tape. */
final class Check {
    private static int failed;

    private Check() {
    }

    static void same(String what, long got, long due) {
        if (got != due) {
            failed++;
            System.out.println(what + ": answered " + got + ", due is " + due);
        }
    }

    static void yes(String what, boolean got) {
        same(what, got ? 1 : 0, 1);
    }

    static void no(String what, boolean got) {
        same(what, got ? 1 : 0, 0);
    }

    /** Ends the test: 1, if any answer was not as due. */
    static void end() {
        System.out.println(failed == 0 ? "all answers are as due" : failed + " answers are not as due");
        if (failed != 0) {
            System.exit(1);
        }
    }

    /** Bytes come behind the tape. */
    static void write(OperaHouse x, int... bytes) {
        int start = x.count(6);
        for (int at = 0; at < bytes.length; at += 20) {
            int[] n = new int[5];
            for (int k = 0; k < 20; k++) {
                int b = at + k < bytes.length ? bytes[at + k] & 255 : 0;
                n[k / 4] = n[k / 4] << 8 | b;
            }
            x.feed(n[0], n[1], n[2], n[3], n[4]);
        }
        x.end(start + bytes.length);
    }

    static void write(OperaHouse x, String text) {
        int[] bytes = new int[text.length()];
        for (int k = 0; k < bytes.length; k++) {
            bytes[k] = text.charAt(k);
        }
        write(x, bytes);
    }

    static int contract(OperaHouse x, int s, String text) {
        write(x, text);
        return x.contract(s);
    }

    /** An opera of some roles (voice, strain, tongue, size each), with no seats. */
    static int opera(OperaHouse x, int hours, int set, boolean chorus, int need, int... roles) {
        int[] bytes = new int[4 + roles.length];
        System.arraycopy(roles, 0, bytes, 4, roles.length);
        write(x, bytes);
        return x.opera(hours, set, chorus, need);
    }

    static void throwsNothingSuch(String what, OperaHouse x, int k, int which) {
        boolean thrown = false;
        try {
            x.told(k, which);
        } catch (NoSuchElementException e) {
            thrown = true;
        }
        yes(what + " throws", thrown);
    }

    /** All that is wrong as of t: kind, call, role, three numbers each. */
    static void wrong(String what, OperaHouse x, int t, int... due) {
        int n = x.wrong(t);
        same(what + ": how much is wrong", n, due.length / 3);
        for (int k = 0; k < n && k < due.length / 3; k++) {
            same(what + ": kind of " + k, x.told(k, 0), due[3 * k]);
            same(what + ": call of " + k, x.told(k, 1), due[3 * k + 1]);
            same(what + ": role of " + k, x.told(k, 2), due[3 * k + 2]);
        }
    }

    /** How often a kind is wrong of a call (and a role, if it is not -1), as of t. */
    static int times(OperaHouse x, int t, int kind, int c, int r) {
        int n = x.wrong(t);
        int sum = 0;
        for (int k = 0; k < n; k++) {
            sum += x.told(k, 0) == kind && x.told(k, 1) == c && x.told(k, 2) == r ? 1 : 0;
        }
        return sum;
    }
}
