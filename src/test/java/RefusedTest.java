import java.util.NoSuchElementException;
import java.util.function.Consumer;
import java.util.function.Supplier;
import java.util.function.ToIntFunction;

/**
 * What a refused call, one that throws, and one that only asks leave as it was: two houses are made alike, one of
 * them gets such calls, and then all that can be asked is asked of both.
 */
public final class RefusedTest {
    private static final int REFUSED = -1;

    public static void main(String[] args) {
        twinsAreAlike();
        days();
        tapes();
        houseNumbers();
        calls();
        castsAndIlls();
        lessons();
        contracts();
        faultyTexts();
        tapesTakenInVain();
        laysInVain();
        keptTwice();
        throwing();
        asking();
        fullTape();
        fullHouse();
        fullCalls();
        fullCasts();
        fullIlls();
        fullLessons();
        Check.end();
    }

    /**
     * On day 3: opera 0 (two roles) rehearsed, with fees, a cover, one who came instead, an illness; opera 1 with a
     * vacant role; the latest wrong told two kinds, the latest contract had a fault of kind 2, two nights are laid.
     */
    private static OperaHouse house() {
        OperaHouse x = new OperaHouse();
        Check.opera(x, 2, 0, true, 1, 0, 3, 0, 0, 0, 2, 0, 0);
        Check.opera(x, 4, 1, false, 2, 0, 1, 0, 0);
        for (int s = 0; s < 3; s++) {
            x.singer(1, 1, s % 2);
        }
        x.players(0, 5, 6);
        x.chorus(20, 100);
        Check.contract(x, 0, "fee 700;fee 40 if nth=1;fee 5 if over>0;day 3;rest 20;");
        Check.contract(x, 1, "fee 300;fee 60 if instead or cover;leave 28 to 29;");
        for (int kind = 0; kind < 3; kind++) {
            int c = x.call(4, 8 + 3 * kind, kind, 0, kind);
            x.cast(c, 0, 0, false);
            x.cast(c, 1, 1, false);
        }
        x.call(1, 20, 0, 1, 0);
        x.call(5, 20, 2, 1, 1);
        x.cast(4, 0, 0, false);
        x.next(2);
        x.cast(4, 0, 1, false);
        x.cast(2, 0, 2, true);
        x.learn(2, 0, 0, 4);
        x.ill(2, 9, 11);
        x.next(1);
        x.wrong(3);
        Check.contract(x, 2, "rest 99;");
        Check.write(x, 0, 0);
        Check.same("two nights are laid", x.lay(6, 12, 19), 2);
        return x;
    }

    /** All that can be asked, in a row of answers; what changes something stands at the end. */
    private static String all(OperaHouse x) {
        StringBuilder b = new StringBuilder(counted(x));
        for (int k = -1; k < 4; k++) {
            b.append(" laid ").append(x.laid(k));
        }
        b.append(" fault ").append(x.fault());
        b.append(restOf(x));
        b.append(" keep ").append(x.keep()).append(' ').append(counted(x));
        b.append(" now ").append(x.wrong(3)).append(' ').append(toldOf(x));
        return b.toString();
    }

    private static String counted(OperaHouse x) {
        StringBuilder b = new StringBuilder("counts");
        for (int what = 0; what < 7; what++) {
            b.append(' ').append(x.count(what));
        }
        return b.append(" told ").append(toldOf(x)).toString();
    }

    /** The calls and singers as they are known, but no nights and no faults. */
    private static String restOf(OperaHouse x) {
        StringBuilder b = new StringBuilder();
        int calls = x.count(3);
        for (int c = 0; c < calls; c++) {
            for (int r = 0; r < 2; r++) {
                b.append(" who ").append(x.who(c, r, false, 3)).append(' ').append(x.who(c, r, true, 3));
                b.append(' ').append(x.who(c, r, false, 1)).append(" instead ").append(x.instead(c, r));
                for (int s = 0; s < 3; s++) {
                    b.append(' ').append(x.may(s, c, r)).append(' ').append(x.harm(s, c, r));
                    b.append(' ').append(x.learned(s, c, r, 3));
                }
            }
            for (int s = 0; s < 3; s++) {
                b.append(' ').append(x.tired(s, c, 3)).append(' ').append(x.fee(s, c, 3));
            }
        }
        for (int s = 0; s < 3; s++) {
            b.append(" pay ").append(x.pay(s, 29, 3)).append(' ').append(x.pay(s, 29, 1));
        }
        for (int t = -1; t < 4; t++) {
            b.append(" wrong ").append(x.wrong(t)).append(' ').append(toldOf(x));
        }
        return b.append(" moves ").append(x.moves(1, 4)).toString();
    }

    private static String toldOf(OperaHouse x) {
        StringBuilder b = new StringBuilder();
        try {
            for (int k = 0; k < 20; k++) {
                b.append(x.told(k, 0)).append('/').append(x.told(k, 1)).append('/').append(x.told(k, 2)).append(' ');
            }
        } catch (NoSuchElementException e) {
            b.append("no more");
        }
        return b.toString();
    }

    private static void alike(String what, String one, String other) {
        Check.yes(what + " changes something:\n" + one + "\n" + other, one.equals(other));
    }

    /** Each call is refused with such an answer, and all of them together leave all as it was. */
    @SafeVarargs
    private static void leaves(String what, Supplier<OperaHouse> made, int answer, ToIntFunction<OperaHouse>... refused) {
        OperaHouse together = made.get();
        for (int k = 0; k < refused.length; k++) {
            OperaHouse x = made.get();
            Check.same(what + " " + k, refused[k].applyAsInt(x), answer);
            alike(what + " " + k, all(x), all(made.get()));
            Check.same(what + " " + k + " among others", refused[k].applyAsInt(together), answer);
        }
        alike(what, all(together), all(made.get()));
    }

    private static int i(boolean b) {
        return b ? 1 : REFUSED;
    }

    private static void twinsAreAlike() {
        alike("nothing", all(house()), all(house()));
        OperaHouse x = house();
        x.cast(4, 0, 0, false);
        Check.no("a cast is seen", all(x).equals(all(house())));
        Check.yes("nights can be kept", all(house()).contains("keep 7 "));
        Check.yes("the latest wrong is told", toldOf(house()).startsWith("7/3/0 "));
    }

    private static void days() {
        leaves("next", RefusedTest::house, REFUSED, x -> x.next(-1), x -> x.next(27), x -> x.next(30),
                x -> x.next(Integer.MAX_VALUE), x -> x.next(Integer.MIN_VALUE));
    }

    private static void tapes() {
        leaves("end", RefusedTest::house, REFUSED, x -> i(x.end(-1)), x -> i(x.end(1)),
                x -> i(x.end(Integer.MAX_VALUE)));
        leaves("opera of an empty tape", RefusedTest::house, REFUSED, x -> x.opera(2, 0, false, 1),
                x -> x.opera(7, 4, true, 0));
    }

    private static void houseNumbers() {
        leaves("singer", RefusedTest::house, REFUSED, x -> x.singer(64, 0, 0), x -> x.singer(-1, 0, 0),
                x -> x.singer(0, 64, 0), x -> x.singer(0, -1, 0), x -> x.singer(0, 0, 10), x -> x.singer(0, 0, -1));
        leaves("players", RefusedTest::house, REFUSED, x -> i(x.players(4, 0, 0)), x -> i(x.players(-1, 0, 0)),
                x -> i(x.players(0, 61, 0)), x -> i(x.players(0, 0, 61)), x -> i(x.players(0, -1, 0)),
                x -> i(x.players(0, 0, -1)));
        leaves("chorus", RefusedTest::house, REFUSED, x -> i(x.chorus(25, 0)), x -> i(x.chorus(-1, 0)),
                x -> i(x.chorus(0, 169)), x -> i(x.chorus(0, -1)));
    }

    private static void calls() {
        leaves("call", RefusedTest::house, REFUSED, x -> x.call(2, 0, 0, 0, 0), x -> x.call(30, 0, 0, 0, 0),
                x -> x.call(-1, 0, 0, 0, 0), x -> x.call(9, -1, 0, 0, 0), x -> x.call(9, 23, 0, 0, 0),
                x -> x.call(9, 22, 1, 0, 0), x -> x.call(9, 21, 3, 1, 0), x -> x.call(9, 0, 4, 0, 0),
                x -> x.call(9, 0, -1, 0, 0), x -> x.call(9, 0, 0, 2, 0), x -> x.call(9, 0, 0, -1, 0),
                x -> x.call(9, 0, 0, 0, 4), x -> x.call(9, 0, 0, 0, -1));
    }

    private static void castsAndIlls() {
        leaves("cast", RefusedTest::house, REFUSED, x -> i(x.cast(5, 0, 0, false)), x -> i(x.cast(-1, 0, 0, false)),
                x -> i(x.cast(4, 1, 0, false)), x -> i(x.cast(4, -1, 0, true)), x -> i(x.cast(4, 0, 3, false)),
                x -> i(x.cast(4, 0, -2, false)), x -> i(x.cast(3, 0, 0, false)), x -> i(x.cast(3, 0, 0, true)),
                x -> i(x.cast(3, 0, -1, false)));
        leaves("ill", RefusedTest::house, REFUSED, x -> i(x.ill(3, 0, 29)), x -> i(x.ill(-1, 0, 29)),
                x -> i(x.ill(0, -1, 29)), x -> i(x.ill(0, 0, 30)), x -> i(x.ill(0, 5, 4)));
    }

    private static void lessons() {
        leaves("learn", RefusedTest::house, REFUSED, x -> i(x.learn(3, 0, 0, 9)), x -> i(x.learn(-1, 0, 0, 9)),
                x -> i(x.learn(0, 2, 0, 9)), x -> i(x.learn(0, -1, 0, 9)), x -> i(x.learn(0, 0, 2, 9)),
                x -> i(x.learn(0, 1, 1, 9)), x -> i(x.learn(0, 0, -1, 9)), x -> i(x.learn(0, 0, 0, 0)),
                x -> i(x.learn(0, 0, 0, 100)));
    }

    private static void contracts() {
        leaves("contract", RefusedTest::house, -1000, x -> x.contract(3), x -> x.contract(-1),
                x -> x.contract(Integer.MIN_VALUE), x -> x.contract(Integer.MAX_VALUE));
    }

    /** "-1 - the place of a FAULT: it stays": of each kind, behind good rules of each sort. */
    private static void faultyTexts() {
        String good = "rest 0;day 24;week 0;voice 1;leave 0 to 29;fee 9999;fee 1 if cover;";
        String[] bad = {"?", "leave 1 to 0;", "rest 1;", "fee 1 if " + Check.repeat("not ", 13) + "late;"};
        int[] places = {0, 11, 0, 57};
        int[] kinds = {1, 2, 3, 4};
        for (int k = 0; k < 4; k++) {
            OperaHouse x = house();
            OperaHouse twin = house();
            for (int s = 0; s < 3; s++) {
                int answer = Check.contract(x, s, good + bad[k]);
                Check.same("a fault of kind " + kinds[k], answer, -1 - good.length() - places[k]);
                Check.same("its kind", x.fault(), kinds[k]);
            }
            twin.end(0);
            alike("a fault of kind " + kinds[k], counted(x) + restOf(x), counted(twin) + restOf(twin));
        }
    }

    /** Refused, but "the tape's bytes (empty then, here and below)" are gone. */
    private static void tapesTakenInVain() {
        leavesButTheTape("opera of 7 bytes", 7, x -> x.opera(2, 0, false, 1), REFUSED);
        leavesButTheTape("opera of 20 bytes, strain 0", 20, x -> x.opera(2, 0, false, 1), REFUSED);
        leavesButTheTape("opera of 1 hour", 8, x -> x.opera(1, 0, false, 1), REFUSED);
        leavesButTheTape("contract of nobody", 20, x -> x.contract(3), -1000);
        leavesButTheTape("contract of singer -1", 1, x -> x.contract(-1), -1000);
    }

    private static void leavesButTheTape(String what, int bytes, ToIntFunction<OperaHouse> refused, int answer) {
        OperaHouse x = house();
        OperaHouse twin = house();
        Check.write(x, new int[bytes]);
        Check.write(twin, new int[bytes]);
        Check.same(what, refused.applyAsInt(x), answer);
        Check.same(what + ": the tape is empty", x.count(6), 0);
        twin.end(0);
        alike(what, all(x), all(twin));
    }

    /** A lay that tells NONE, 0 or -2 leaves all but the tape and the nights. */
    private static void laysInVain() {
        int[] answers = {-1, -1, -1, -1, -1, -1, 0};
        for (int k = 0; k < answers.length; k++) {
            OperaHouse x = house();
            OperaHouse twin = house();
            Check.write(x, k == 0 ? new int[0] : k == 1 ? new int[7] : k == 2 ? new int[] {2} : new int[] {0, 0});
            int answer = x.lay(k == 3 ? 2 : 6, k == 4 ? 30 : k == 5 ? 5 : 6, 19);
            Check.same("lay in vain " + k, answer, answers[k]);
            twin.end(0);
            alike("lay in vain " + k, counted(x) + x.fault() + restOf(x), counted(twin) + twin.fault() + restOf(twin));
            Check.same("its nights", x.laid(0), -1);
            Check.same("nothing is kept", x.keep(), -1);
        }
        OperaHouse x = givenUp();
        OperaHouse twin = givenUp();
        Check.write(x, 0, 0, 0, 0, 0, 1);
        Check.same("given up", x.lay(3, 29, 19), -2);
        twin.end(0);
        alike("given up", counted(x) + x.fault() + restOf(x), counted(twin) + twin.fault() + restOf(twin));
        Check.same("its nights", x.laid(0), -1);
        Check.same("nothing is kept", x.keep(), -1);
    }

    private static OperaHouse givenUp() {
        OperaHouse x = house();
        Check.contract(x, 0, "week 7;rest 0;voice 999;");
        Check.contract(x, 1, "week 7;rest 0;voice 999;");
        return x;
    }

    /** A refused keep leaves all as it was, too. */
    private static void keptTwice() {
        OperaHouse x = house();
        OperaHouse twin = house();
        Check.same("kept", x.keep(), 7);
        twin.keep();
        Check.same("kept once", x.keep(), -1);
        alike("kept twice", all(x), all(twin));
        OperaHouse y = new OperaHouse();
        OperaHouse other = new OperaHouse();
        Check.same("nothing is laid", y.keep(), -1);
        Check.same("none laid", y.laid(0), -1);
        alike("keep of nothing", all(y), all(other));
    }

    private static void throwing() {
        OperaHouse x = house();
        int[][] bad = {{-1, 0}, {99, 0}, {0, -1}, {0, 3}, {Integer.MAX_VALUE, 1}, {Integer.MIN_VALUE, 2}};
        for (int[] b : bad) {
            Check.throwsNothingSuch("told " + b[0] + ", " + b[1], x, b[0], b[1]);
        }
        alike("a call that throws", all(x), all(house()));
    }

    /** What is only asked, also of no such ones, changes nothing but what the latest wrong told. */
    private static void asking() {
        OperaHouse x = house();
        Consumer<OperaHouse> ask = y -> {
            for (int n = -1; n < 7; n++) {
                y.who(n, n, n % 2 == 0, n);
                y.learned(n, n, n, n);
                y.tired(n, n, n);
                y.fee(n, n, n);
                y.pay(n, n, n);
                y.moves(n, n);
                y.may(n, n, 0);
                y.harm(n, n, 0);
                y.instead(n, 0);
                y.laid(n);
                y.count(n);
                y.fault();
            }
        };
        ask.accept(x);
        alike("asking", all(x), all(house()));
    }

    // ---- full ones: one more is refused, and leaves all as it was ----

    private static String brief(OperaHouse x) {
        StringBuilder b = new StringBuilder(counted(x));
        int last = x.count(3) - 1;
        for (int c = 0; c <= last; c += Math.max(1, last)) {
            b.append(" who ").append(x.who(c, 0, false, 29)).append(' ').append(x.who(c, 0, true, 29));
            b.append(' ').append(x.instead(c, 0)).append(' ').append(x.may(0, c, 0)).append(' ').append(x.harm(0, c, 0));
            b.append(' ').append(x.learned(0, c, 0, 29)).append(' ').append(x.tired(0, c, 29));
        }
        b.append(" pay ").append(x.pay(0, 29, 29)).append(" wrong ").append(x.wrong(29)).append(' ').append(toldOf(x));
        return b.toString();
    }

    private static void fullLeaves(String what, Supplier<OperaHouse> made, ToIntFunction<OperaHouse> more) {
        OperaHouse x = made.get();
        OperaHouse twin = made.get();
        Check.same("one more " + what, more.applyAsInt(x), REFUSED);
        Check.same("and one more " + what, more.applyAsInt(x), REFUSED);
        alike("one more " + what, brief(x), brief(twin));
    }

    private static void fullTape() {
        Supplier<OperaHouse> made = () -> {
            OperaHouse x = Check.plainHouse(2, 1, 1, 1);
            Check.write(x, "fee 7;" + Check.repeat(" ", 294));
            x.feed(0x20202020, 0x20202020, 0x20202020, 0x20202020, 0x20202020);
            return x;
        };
        for (int bytes : new int[] {321, 330, 340}) {
            OperaHouse x = made.get();
            x.feed(-1, -1, -1, -1, -1);
            x.end(bytes);
            Check.same("feed behind " + bytes, x.feed(-1, -1, -1, -1, -1), REFUSED);
            Check.same("none came", x.count(6), bytes);
            Check.yes("the first 300", x.end(300));
            Check.same("are as they were", x.contract(0), 1);
        }
        OperaHouse x = made.get();
        Check.same("feed behind 320", x.feed(-1, -1, -1, -1, -1), 340);
        fullLeaves("feed", () -> {
            OperaHouse y = made.get();
            y.feed(1, 2, 3, 4, 5);
            return y;
        }, y -> y.feed(6, 7, 8, 9, 10));
    }

    private static void fullHouse() {
        Supplier<OperaHouse> made = () -> {
            OperaHouse x = Check.plainHouse(2, 1, 9, 20);
            Check.castCall(x, 0, 0, 0, 8, 19);
            return x;
        };
        fullLeaves("opera", made, x -> Check.opera(x, 3, 1, true, 2, 0, 2, 0, 0));
        fullLeaves("singer", made, x -> x.singer(3, 3, 3));
    }

    private static void fullCalls() {
        Supplier<OperaHouse> made = () -> {
            OperaHouse x = Check.plainHouse(2, 1, 1, 1);
            for (int c = 0; c < 60; c++) {
                x.call(c / 2, 12 * (c % 2), c % 4, 0, 0);
            }
            x.cast(59, 0, 0, false);
            return x;
        };
        fullLeaves("call", made, x -> x.call(0, 5, 3, 0, 3));
        fullLeaves("night", made, x -> {
            Check.write(x, 0);
            return x.lay(0, 29, 20);
        });
    }

    private static void fullCasts() {
        Supplier<OperaHouse> made = () -> {
            OperaHouse x = Check.plainHouse(2, 1, 1, 3);
            x.call(3, 0, 3, 0, 0);
            x.call(4, 0, 3, 0, 0);
            for (int k = 0; k < 400; k++) {
                x.cast(k % 2, 0, k % 3, k % 5 == 0);
            }
            return x;
        };
        fullLeaves("cast", made, x -> i(x.cast(0, 0, 2, false)));
        fullLeaves("cover", made, x -> i(x.cast(1, 0, 2, true)));
        fullLeaves("cast of nobody", made, x -> i(x.cast(1, 0, -1, false)));
    }

    private static void fullIlls() {
        Supplier<OperaHouse> made = () -> {
            OperaHouse x = Check.plainHouse(2, 1, 1, 1);
            Check.castCall(x, 5, 0, 0, 0, 0);
            for (int k = 0; k < 60; k++) {
                x.ill(0, 7, 7 + k % 20);
            }
            return x;
        };
        fullLeaves("ill", made, x -> i(x.ill(0, 5, 5)));
    }

    private static void fullLessons() {
        Supplier<OperaHouse> made = () -> {
            OperaHouse x = Check.plainHouse(2, 60, 1, 1);
            Check.castCall(x, 5, 0, 3, 0, 0);
            for (int k = 0; k < 200; k++) {
                x.learn(0, 0, 0, 99);
            }
            return x;
        };
        fullLeaves("lesson", made, x -> i(x.learn(0, 0, 0, 1)));
        Check.same("all 200 are known", made.get().learned(0, 0, 0, 0), 19800);
    }
}
