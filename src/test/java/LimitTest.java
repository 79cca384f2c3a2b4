import java.util.function.IntBinaryOperator;

/**
 * Empty and full: tape, text, operas, roles, singers, calls, casts, ills, lessons, rules, ones, tries, nights;
 * and the last of all of them at once, which must be as good as the first.
 */
public final class LimitTest {
    private static final int[] EIGHT_ROLES = {0, 1, 0, 0, 0, 1, 0, 0, 0, 1, 0, 0, 0, 1, 0, 0, 0, 1, 0, 0, 0, 1, 0, 0,
        0, 1, 0, 0, 0, 1, 0, 0};

    public static void main(String[] args) {
        emptyHouse();
        emptyTape();
        fullTape();
        shortAndLongTexts();
        operas();
        roles();
        singers();
        calls();
        casts();
        coversCountToo();
        castsOfNobody();
        ills();
        lessons();
        rules();
        ones();
        oneWithinAnother();
        tries();
        nights();
        nightsUpTo60Calls();
        castsUpTo400ByKeep();
        manyThingsWrong();
        lessonsOfAll();
        theLastOfAll();
        theLastOneInstead();
        wrongAtTheLastSpot();
        castsOfEightRolesByKeep();
        aLongLife();
        Check.end();
    }

    /** "No OPERAS, SINGERS, CALLS; no players; DAILY 24, WEEKLY 168; TODAY 0; an empty tape." */
    private static void emptyHouse() {
        OperaHouse x = new OperaHouse();
        for (int what = 0; what < 7; what++) {
            Check.same("count " + what + " of an empty house", x.count(what), 0);
        }
        Check.same("wrong", x.wrong(0), 0);
        Check.throwsNothingSuch("told", x, 0, 0);
        Check.same("who", x.who(0, 0, false, 0), -1);
        Check.same("learned", x.learned(0, 0, 0, 0), -1);
        Check.same("tired", x.tired(0, 0, 0), -1);
        Check.same("fee", x.fee(0, 0, 0), -1);
        Check.same("pay", x.pay(0, 0, 0), -1);
        Check.no("may", x.may(0, 0, 0));
        Check.same("harm", x.harm(0, 0, 0), -1);
        Check.same("instead", x.instead(0, 0), -1);
        Check.same("laid", x.laid(0), -1);
        Check.same("keep", x.keep(), -1);
        Check.same("contract", x.contract(0), -1000);
        Check.same("fault", x.fault(), 0);
        Check.same("call", x.call(0, 0, 0, 0, 0), -1);
        Check.no("cast", x.cast(0, 0, -1, false));
        Check.no("learn", x.learn(0, 0, 0, 1));
        Check.no("ill", x.ill(0, 0, 0));
        Check.same("lay", x.lay(0, 0, 0), -1);
        Check.same("moves of the set at stage", x.moves(0, 0), 0);
        Check.same("moves of another set", x.moves(1, 3), 3);
        for (int g = 0; g < 4; g++) {
            noPlayersIn(g);
        }
    }

    private static void noPlayersIn(int g) {
        OperaHouse x = new OperaHouse();
        int[] bytes = {0, 0, 0, 0, 0, 1, 0, 0};
        Check.write(x, bytes);
        x.opera(2, 0, false, 1);
        bytes[g] = 1;
        Check.write(x, bytes);
        x.opera(2, 0, false, 1);
        int c = x.call(0, 0, 2, 0, 3);
        int d = x.call(1, 0, 2, 1, 3);
        Check.same("no seats, no players", Check.times(x, 0, 4, c, -1), 0);
        Check.same("one seat of group " + g, Check.times(x, 0, 4, d, -1), 1);
        x.players(g, 1, 0);
        Check.same("one player of group " + g, Check.times(x, 0, 4, d, -1), 0);
    }

    private static void emptyTape() {
        OperaHouse x = new OperaHouse();
        x.singer(1, 1, 1);
        Check.yes("end 0", x.end(0));
        Check.no("end 1", x.end(1));
        Check.same("opera", x.opera(2, 0, false, 1), -1);
        Check.same("contract", x.contract(0), 0);
        Check.same("no fault", x.fault(), 0);
        Check.same("lay", x.lay(0, 0, 0), -1);
        Check.same("twenty bytes", x.feed(0, 0, 0, 0, 0), 20);
        Check.yes("end 0 of 20", x.end(0));
        Check.same("empty again", x.count(6), 0);
        Check.no("none is left", x.end(1));
        Check.same("behind none", x.feed(0, 0, 0, 0, 0), 20);
    }

    /** "NONE, and none come, if it would have more than 340." */
    private static void fullTape() {
        for (int cut = 0; cut <= 20; cut++) {
            OperaHouse x = new OperaHouse();
            for (int k = 0; k < 17; k++) {
                Check.same("feed " + k, x.feed(0, 0, 0, 0, 0), 20 * k + 20);
            }
            x.end(340 - cut);
            Check.same("feed behind " + (340 - cut), x.feed(0, 0, 0, 0, 0), cut == 20 ? 340 : -1);
            Check.same("bytes then", x.count(6), cut == 20 ? 340 : 340 - cut);
        }
        OperaHouse x = new OperaHouse();
        x.singer(1, 1, 1);
        Check.write(x, Check.repeat(" ", 338) + "!");
        Check.same("a text of 339 bytes", x.contract(0), -301);
        Check.same("its tape is empty", x.count(6), 0);
        Check.same("and takes 20 again", x.feed(0, 0, 0, 0, 0), 20);
    }

    /** "a text of at most 300 bytes": a rule, and blanks, in as many bytes. */
    private static void shortAndLongTexts() {
        for (int bytes = 6; bytes <= 340; bytes += bytes == 290 || bytes == 310 ? 1 : bytes < 290 ? 71 : 1) {
            OperaHouse x = new OperaHouse();
            x.singer(1, 1, 1);
            Check.write(x, "fee 7;" + Check.repeat(" ", bytes - 6));
            Check.same("a text of " + bytes + " bytes", x.contract(0), bytes <= 300 ? 1 : -301);
            Check.same("its fault", x.fault(), bytes <= 300 ? 0 : 1);
            OperaHouse y = new OperaHouse();
            y.singer(1, 1, 1);
            Check.write(y, Check.repeat("\n", bytes - 6) + "fee 7;");
            Check.same("the rule behind, " + bytes, y.contract(0), bytes <= 300 ? 1 : -301);
            OperaHouse z = new OperaHouse();
            z.singer(1, 1, 1);
            Check.write(z, Check.repeat(" ", bytes));
            Check.same("no rule, " + bytes, z.contract(0), bytes <= 300 ? 0 : -301);
        }
    }

    private static void operas() {
        OperaHouse x = new OperaHouse();
        for (int o = 0; o < 9; o++) {
            Check.same("call of opera " + o + " ahead of it", x.call(0, 0, 0, o, 0), -1);
            Check.same("opera " + o, Check.opera(x, 2, 0, false, 1, 0, 1, 0, 0), o);
            Check.same("call of it", x.call(0, 0, 0, o, 0), o);
        }
        for (int k = 0; k < 2; k++) {
            Check.same("a tenth", Check.opera(x, 2, 0, false, 1, 0, 1, 0, 0), -1);
            Check.same("operas", x.count(1), 9);
            Check.same("the tape is empty", x.count(6), 0);
            Check.same("no call of it", x.call(0, 0, 0, 9, 0), -1);
        }
    }

    private static void roles() {
        for (int roles = 1; roles <= 8; roles++) {
            OperaHouse x = new OperaHouse();
            Check.opera(x, 2, 0, false, 1, java.util.Arrays.copyOf(EIGHT_ROLES, 4 * roles));
            x.singer(1, 1, 0);
            int c = x.call(0, 0, 0, 0, 0);
            Check.same("vacant roles of " + roles, x.wrong(0), roles);
            Check.same("the last of them", x.told(roles - 1, 2), roles - 1);
            Check.yes("the last role", x.cast(c, roles - 1, 0, false));
            Check.no("none behind it", x.cast(c, roles, 0, false));
            Check.same("who has it", x.who(c, roles - 1, false, 0), 0);
            Check.same("who has none", x.who(c, roles, false, 0), -1);
            Check.same("vacant roles but one", x.wrong(0), roles - 1);
            Check.yes("a lesson of the last one", x.learn(0, 0, roles - 1, 1));
            Check.no("a lesson of none", x.learn(0, 0, roles, 1));
        }
    }

    private static void singers() {
        OperaHouse x = Check.plainHouse(2, 1, 1, 0);
        int c = x.call(0, 0, 0, 0, 0);
        for (int s = 0; s < 20; s++) {
            Check.no("singer " + s + " is not yet", x.cast(c, 0, s, false));
            Check.same("singer " + s, x.singer(1, 1, 0), s);
            Check.yes("and can be cast", x.cast(c, 0, s, false));
        }
        for (int k = 0; k < 2; k++) {
            Check.same("a 21st", x.singer(1, 1, 0), -1);
            Check.same("twenty", x.count(2), 20);
            Check.no("is none", x.cast(c, 0, 20, false));
        }
    }

    private static void calls() {
        OperaHouse x = Check.plainHouse(2, 1, 1, 1);
        for (int c = 0; c < 60; c++) {
            Check.no("call " + c + " is not yet", x.cast(c, 0, 0, false));
            Check.same("call " + c, x.call(c / 2, 22 * (c % 2), 3, 0, 0), c);
            Check.yes("and is cast", x.cast(c, 0, 0, false));
        }
        for (int k = 0; k < 2; k++) {
            Check.same("a 61st", x.call(0, 5, 0, 0, 0), -1);
            Check.same("sixty", x.count(3), 60);
            Check.no("is none", x.cast(60, 0, 0, false));
            Check.same("who", x.who(60, 0, false, 0), -1);
        }
        Check.same("the 60th night of one's", Check.contract(x, 0, "fee 9 if nth=60;fee 1 if nth>60;"), 2);
        Check.same("its fee", x.fee(0, 59, 0), 9);
        Check.same("no other one's", x.pay(0, 29, 0), 9);
    }

    /** "400 such in all" */
    private static void casts() {
        OperaHouse x = Check.plainHouse(2, 1, 1, 2);
        x.call(0, 0, 0, 0, 0);
        for (int k = 0; k < 400; k++) {
            Check.same("casts ahead of " + k, x.count(4), k);
            if (k == 398) {
                Check.yes("the 399th", x.cast(0, 0, 0, false));
            } else {
                x.cast(0, 0, k % 2, k % 2 == 0);
            }
            k = k == 10 ? ahead(x, 11, 396) : k;
        }
        Check.same("four hundred", x.count(4), 400);
        Check.no("a 401st", x.cast(0, 0, 0, false));
        Check.no("a 401st that is a cover", x.cast(0, 0, 1, true));
        Check.no("a 401st of nobody", x.cast(0, 0, -1, false));
        Check.same("four hundred still", x.count(4), 400);
        Check.same("the 400th is known", x.who(0, 0, false, 0), 1);
        Check.same("the cover is known", x.who(0, 0, true, 0), 0);
    }

    private static int ahead(OperaHouse x, int from, int to) {
        for (int k = from; k <= to; k++) {
            x.cast(0, 0, k % 2, k % 2 == 0);
        }
        return to;
    }

    private static void coversCountToo() {
        OperaHouse x = Check.plainHouse(2, 1, 1, 2);
        x.call(0, 0, 0, 0, 0);
        for (int k = 0; k < 400; k++) {
            Check.yes("cover " + k, x.cast(0, 0, k % 2, true));
        }
        Check.no("a cast behind 400 covers", x.cast(0, 0, 0, false));
        Check.same("four hundred", x.count(4), 400);
    }

    private static void castsOfNobody() {
        OperaHouse x = Check.plainHouse(2, 1, 1, 2);
        x.call(0, 0, 0, 0, 0);
        for (int k = 0; k < 400; k++) {
            Check.yes("nobody " + k, x.cast(0, 0, -1, k % 2 == 1));
        }
        Check.no("a cast behind 400 of nobody", x.cast(0, 0, 0, false));
        Check.same("four hundred", x.count(4), 400);
    }

    private static void ills() {
        OperaHouse x = Check.plainHouse(2, 1, 1, 20);
        for (int k = 0; k < 60; k++) {
            Check.same("ills ahead of " + k, x.count(5), k);
            Check.yes("ill " + k, x.ill(k % 20, k / 2, k == 59 ? 29 : k / 2));
        }
        for (int k = 0; k < 2; k++) {
            Check.no("a 61st", x.ill(0, 0, 29));
            Check.same("sixty", x.count(5), 60);
        }
        int first = Check.castCall(x, 0, 0, 0, 0, 0);
        int last = Check.castCall(x, 29, 0, 0, 0, 19);
        int none = Check.castCall(x, 1, 0, 0, 0, 0);
        Check.wrong("the first and the 60th are known", x, 0, 10, first, 0, 10, last, 0);
        Check.same("the 61st is not", Check.times(x, 0, 10, none, 0), 0);
    }

    private static void lessons() {
        OperaHouse x = Check.plainHouse(2, 1, 1, 2);
        int c = x.call(0, 0, 0, 0, 0);
        for (int k = 0; k < 200; k++) {
            Check.yes("lesson " + k, x.learn(k == 199 ? 1 : 0, 0, 0, k == 199 ? 99 : 1));
        }
        for (int k = 0; k < 2; k++) {
            Check.no("a 201st", x.learn(0, 0, 0, 1));
        }
        Check.same("199 lessons", x.learned(0, c, 0, 0), 199);
        Check.same("the 200th", x.learned(1, c, 0, 0), 99);
    }

    /** "these four each once", "6 at most", "8 at most": 18 rules, and one more of each. */
    private static void rules() {
        String all = "rest 1;day 1;week 1;voice 1;" + Check.repeat("leave 1 to 1;", 6) + Check.repeat("fee 1;", 8);
        String[] more = {"rest 1;", "day 1;", "week 1;", "voice 1;", "leave 1 to 1;", "fee 1;"};
        OperaHouse x = new OperaHouse();
        x.singer(1, 1, 1);
        Check.same("all rules", Check.contract(x, 0, all), 18);
        for (String rule : more) {
            Check.same(rule + " once more", Check.contract(x, 0, all + rule), -1 - all.length());
            Check.same("its kind", x.fault(), 3);
            Check.same(rule + " once more, ahead", Check.contract(x, 0, rule + all), -1 - rule.length() - all.lastIndexOf(rule));
            Check.same("its kind", x.fault(), 3);
            Check.same("all but that are good", Check.contract(x, 0, all.replaceFirst(rule, "")), 17);
        }
        for (int n = 0; n <= 9; n++) {
            Check.same(n + " fees", Check.contract(x, 0, Check.repeat("fee 1;", n)), n <= 8 ? n : -49);
            Check.same(n + " leaves", Check.contract(x, 0, Check.repeat("leave 0 to 0;", n)), n <= 6 ? n : -79);
        }
    }

    /** "No more than 40 ONES in a text": n in one fee, and n in two. */
    private static void ones() {
        for (int n = 1; n <= 45; n++) {
            OperaHouse x = new OperaHouse();
            x.singer(1, 1, 1);
            String text = "fee 1 if " + onesOf(n) + ";";
            int place = text.length() < 300 ? placeOfOne(text, 41) : -1;
            Check.same(n + " ones", Check.contract(x, 0, text), n <= 40 ? 1 : -1 - place);
            Check.same("fault of " + n + " ones", x.fault(), n <= 40 ? 0 : 4);
            String two = "fee 1 if late;fee 2 if " + onesOf(n - 1) + ";";
            if (n > 1) {
                Check.same(n + " ones of two fees", Check.contract(x, 0, two), n <= 40 ? 2 : -1 - placeOfOne(two, 41));
                Check.same("fault of " + n + " ones of two fees", x.fault(), n <= 40 ? 0 : 4);
            }
        }
    }

    /** So many ones, shortly: "(late)" are two, and " not late". */
    private static String onesOf(int n) {
        StringBuilder b = new StringBuilder(n % 2 == 1 ? "late" : "(late)");
        for (int k = n % 2 == 1 ? 1 : 2; k < n; k += 2) {
            b.append(" or").append(k % 4 < 2 ? "(late)" : " not late");
        }
        return b.toString();
    }

    private static int placeOfOne(String text, int n) {
        int seen = 0;
        for (int at = 0; at < text.length(); at++) {
            boolean begins = text.charAt(at) == '(' || text.startsWith("not", at) || text.startsWith("late", at);
            seen += begins ? 1 : 0;
            if (seen == n) {
                return at;
            }
        }
        return -1;
    }

    /** "no more than 12 within one another": brackets, nots, and both by turns. */
    private static void oneWithinAnother() {
        String[] opens = {"(", "not ", "not(", "(not "};
        String[] closes = {")", "", ")", ")"};
        int[] each = {1, 1, 2, 2};
        for (int k = 0; k < 4; k++) {
            for (int n = 0; n <= 16; n += each[k]) {
                OperaHouse x = new OperaHouse();
                x.singer(1, 1, 1);
                int m = n / each[k];
                String text = "fee 1 if " + Check.repeat(opens[k], m) + "late" + Check.repeat(closes[k], m) + ";";
                int place = 9 + (each[k] == 1 ? 12 * opens[k].length() : 6 * opens[k].length());
                Check.same(text, Check.contract(x, 0, text), n + 1 <= 12 ? 1 : -1 - place);
                Check.same("fault of " + text, x.fault(), n + 1 <= 12 ? 0 : 4);
                String beside = "fee 1 if late or " + text.substring(9);
                Check.same(beside, Check.contract(x, 0, beside), n + 1 <= 12 ? 1 : -1 - place - 8);
                String joined = "fee 1 if late and " + text.substring(9);
                Check.same(joined, Check.contract(x, 0, joined), n + 1 <= 12 ? 1 : -1 - place - 9);
            }
        }
    }

    /** Opera o, rehearsed on day 0, is sung by singer o. */
    private static OperaHouse season(int operas) {
        OperaHouse x = Check.plainHouse(2, 1, operas, operas);
        for (int o = 0; o < operas; o++) {
            for (int kind = 0; kind < 3; kind++) {
                Check.castCall(x, 0, 7 * o + 2 * kind + (kind == 2 ? 1 : 0), kind, o, o);
            }
        }
        return x;
    }

    private static int lay(OperaHouse x, int first, int last, int... wishes) {
        Check.write(x, wishes);
        return x.lay(first, last, 22);
    }

    /** "More than 400 tries: it is given up." */
    private static void tries() {
        OperaHouse x = season(2);
        Check.contract(x, 1, "leave 0 to 29;");
        // 0 on each day, and 1 on each one behind that: n (n + 1) / 2
        for (int n = 1; n <= 29; n++) {
            Check.same("no way in " + n * (n + 1) / 2 + " tries", lay(x, 1, n, 0, 1), n <= 27 ? 0 : -2);
        }
        // without 0 on day d there are 28 - d tries less
        for (int d = 18; d <= 27; d++) {
            Check.contract(x, 0, "leave " + d + " to " + d + ";");
            Check.same("no way in " + (406 - 28 + d) + " tries", lay(x, 1, 28, 0, 1), 406 - 28 + d <= 400 ? 0 : -2);
        }
        Check.contract(x, 0, "");
        Check.contract(x, 1, "leave 0 to 28;");
        Check.same("a way behind 28 tries", lay(x, 1, 29, 0, 1), 29);
        Check.same("its day", x.laid(1), 29);
    }

    private static void nights() {
        for (int n = 0; n <= 8; n++) {
            OperaHouse x = season(1);
            int answer = lay(x, 3, 29, new int[n]);
            Check.same(n + " nights", answer, n >= 1 && n <= 6 ? nightsTried(n) : -1);
            Check.same("the last of " + n, x.laid(n - 1), n >= 1 && n <= 6 ? nightDay(n) : -1);
            Check.same("none behind it", x.laid(n), -1);
            Check.same("kept", x.keep(), n >= 1 && n <= 6 ? 3 + n : -1);
        }
    }

    /** Four nights a week: on 3, 4, 5, 6, then on 10, 11. */
    private static int nightDay(int n) {
        return n <= 4 ? 2 + n : 5 + n;
    }

    private static int nightsTried(int n) {
        return n <= 4 ? n : n + 3;
    }

    /** "or they would be more than 60 CALLS" */
    private static void nightsUpTo60Calls() {
        for (int n = 1; n <= 6; n++) {
            for (int free = n - 1; free <= n + 1; free++) {
                OperaHouse x = season(1);
                Check.contract(x, 0, "week 7;");
                for (int c = 3; c < 60 - free; c++) {
                    x.call(29, 0, 0, 0, 0);
                }
                Check.same("calls", x.count(3), 60 - free);
                int answer = lay(x, 3, 28, new int[n]);
                Check.same(n + " nights where " + free + " calls can come", answer, free >= n ? n : -1);
                Check.same("kept", x.keep(), free >= n ? 60 - free + n : -1);
                Check.same("calls then", x.count(3), free >= n ? 60 - free + n : 60 - free);
            }
        }
    }

    /** "or CASTS would be more than 400" */
    private static void castsUpTo400ByKeep() {
        for (int told = 396; told <= 400; told++) {
            OperaHouse x = season(1);
            for (int k = 3; k < told; k++) {
                x.cast(0, 0, 0, true);
            }
            Check.same("told", x.count(4), told);
            Check.same("laid", lay(x, 3, 28, 0, 0), 2);
            Check.same("kept behind " + told, x.keep(), told <= 398 ? 5 : -1);
            Check.same("casts then", x.count(4), told <= 398 ? told + 2 : told);
            Check.same("calls then", x.count(3), told <= 398 ? 5 : 3);
            Check.same("laid they are still", x.laid(1), 4);
            Check.same("once more", x.keep(), -1);
        }
        for (int told = 399; told <= 400; told++) {
            // nobody in the marks, which no night asks for
            OperaHouse x = season(1);
            x.cast(1, 0, -1, false);
            for (int k = 4; k < told; k++) {
                x.cast(0, 0, 0, true);
            }
            Check.same("laid", lay(x, 3, 28, 0), 1);
            Check.same("kept behind " + told, x.keep(), told == 399 ? 4 : -1);
            Check.same("casts then", x.count(4), 400);
        }
    }

    /** 60 nights of eight roles at one hour, all of them one's who can't: all that can be wrong is told. */
    private static void manyThingsWrong() {
        OperaHouse x = new OperaHouse();
        int[] bytes = {40, 0, 0, 0, 0, 30, 0, 9, 0, 30, 0, 9, 0, 30, 0, 9, 0, 30, 0, 9, 0, 30, 0, 9};
        Check.write(x, bytes);
        x.opera(6, 3, true, 60);
        x.singer(0, 0, 0);
        x.chorus(0, 0);
        Check.contract(x, 0, "week 0;day 1;voice 1;leave 0 to 29;");
        for (int c = 0; c < 60; c++) {
            x.call(0, 0, 3, 0, 3);
        }
        for (int k = 0; k < 300; k++) {
            x.cast(k / 5, k % 5, 0, false);
        }
        // of each: 2, 3, 4, 6 (1 and 5 but for the first one), and of each role 8, 9, 10, 13, 14, 15, and 11
        int ofCall = 6;
        int ofRoles = 5 * 7;
        Check.same("all at once", x.wrong(0), 60 * (ofCall + ofRoles) - 2 - 1);
        int last = 60 * (ofCall + ofRoles) - 4;
        Check.same("the last one's kind", x.told(last, 0), 15);
        Check.same("its call", x.told(last, 1), 59);
        Check.same("its role", x.told(last, 2), 4);
        Check.throwsNothingSuch("one more", x, last + 1, 0);
    }

    /** Each lesson is of its own singer, opera and role: the hours are told by a number of these three. */
    private static void lessonsOfAll() {
        IntBinaryOperator hours = (s, part) -> 1 + (s * 29 + part * 13) % 99;
        int[] some = {0, 1, 7, 8, 15, 16, 63, 64, 70, 71};
        OperaHouse x = new OperaHouse();
        for (int o = 0; o < 9; o++) {
            Check.opera(x, 2, 0, false, 1, EIGHT_ROLES);
        }
        for (int s = 0; s < 20; s++) {
            x.singer(1, 1, 0);
        }
        for (int o = 0; o < 9; o++) {
            x.call(0, 0, 3, o, 0);
        }
        for (int s = 0; s < 20; s += s == 1 ? 17 : 1) {
            for (int part : some) {
                Check.yes("lesson", x.learn(s, part / 8, part % 8, hours.applyAsInt(s, part)));
            }
        }
        for (int s = 0; s < 20; s++) {
            boolean learns = s < 2 || s > 17;
            for (int part : new int[] {0, 1, 2, 7, 8, 63, 64, 70, 71}) {
                int due = learns && part != 2 ? hours.applyAsInt(s, part) : 0;
                Check.same("learned of " + s + ", " + part, x.learned(s, part / 8, part % 8, 0), due);
            }
        }
    }

    /** Opera 8 of eight roles; its call 59, on the last hours of day 29, where singer 19 has role 7. */
    private static OperaHouse corner(int kind) {
        OperaHouse x = Check.plainHouse(2, 1, 8, 19);
        Check.opera(x, 2, 0, true, 60, EIGHT_ROLES);
        x.singer(63, 63, 1);
        for (int c = 0; c < 59; c++) {
            x.call(c / 3, 3 * (c % 3), 0, c % 9, 0);
        }
        x.call(29, kind == 1 ? 21 : 22, kind, 8, 3);
        return x;
    }

    private static void theLastOfAll() {
        OperaHouse x = corner(3);
        x.learn(19, 8, 7, 50);
        Check.yes("cast", x.cast(59, 7, 19, false));
        Check.yes("cover", x.cast(59, 6, 19, true));
        Check.same("who", x.who(59, 7, false, 0), 19);
        Check.same("who covers", x.who(59, 6, true, 0), 19);
        Check.same("learned", x.learned(19, 59, 7, 0), 50);
        Check.same("tired", x.tired(19, 59, 0), 2);
        Check.same("contract", Check.contract(x, 19, "voice 1;week 0;fee 90 if cover and nth=1;fee 7 if late;"), 4);
        Check.same("fee", x.fee(19, 59, 0), 97);
        Check.same("pay", x.pay(19, 29, 0), 97);
        Check.same("pay up to 28", x.pay(19, 28, 0), 0);
        x.ill(19, 29, 29);
        int n = x.wrong(0);
        int[] due = {15, 14, 10, 9};
        for (int k = 0; k < due.length; k++) {
            Check.same("kind told at last but " + k, x.told(n - 1 - k, 0), due[k]);
            Check.same("its call", x.told(n - 1 - k, 1), 59);
            Check.same("its role", x.told(n - 1 - k, 2), 7);
        }
        Check.same("then the vacant ones", x.told(n - 5, 0), 7);
        Check.same("but for the last role", x.told(n - 5, 2), 6);
    }

    private static void theLastOneInstead() {
        OperaHouse x = corner(2);
        x.cast(59, 7, 3, false);
        x.cast(59, 7, 19, true);
        x.learn(19, 8, 7, 59);
        Check.yes("may", x.may(19, 59, 7));
        Check.same("harm", x.harm(19, 59, 7), 10 + 3);
        Check.same("instead", x.instead(59, 7), 19);
        Check.same("harm of another one", x.harm(18, 59, 7), 700);
        Check.contract(x, 19, "fee 500 if instead and over=0;");
        Check.same("harm with the fee", x.harm(19, 59, 7), 10 + 3 + 5);
        Check.contract(x, 19, "leave 29 to 29;");
        Check.no("may not", x.may(19, 59, 7));
        Check.same("instead another one", x.instead(59, 7), 0);
        x.cast(59, 7, 19, false);
        Check.same("who", x.who(59, 7, false, 0), 19);
        Check.same("away", Check.times(x, 0, 10, 59, 7), 1);
        Check.same("harm of one who is cast", x.harm(19, 59, 7), -1);
        Check.same("role 6 is another one", x.who(59, 6, false, 0), -1);
        Check.same("call 58 is another one", x.who(58, 0, false, 0), -1);
    }

    /** What is wrong of the last spot of all now does not keep one from another call. */
    private static void wrongAtTheLastSpot() {
        OperaHouse x = corner(2);
        x.cast(59, 7, 19, false);
        Check.contract(x, 19, "leave 29 to 29;");
        Check.same("away", Check.times(Check.wrongs(x, 0), 10, 59, 7), 1);
        Check.yes("may have another role", x.may(19, 8, 7));
        Check.contract(x, 19, "fee 5;fee 6 if cover;");
        x.cast(59, 7, 18, false);
        x.cast(59, 7, 19, true);
        Check.same("a cover of the last role", x.fee(19, 59, 0), 11);
    }

    /** Eight casts each: told in all 400, or 408. */
    private static void castsOfEightRolesByKeep() {
        for (int told = 392; told <= 393; told++) {
            OperaHouse x = new OperaHouse();
            Check.opera(x, 2, 0, false, 1, EIGHT_ROLES);
            for (int s = 0; s < 8; s++) {
                x.singer(1, 1, 0);
            }
            for (int kind = 0; kind < 3; kind++) {
                x.call(0, 3 * kind, kind, 0, 0);
                for (int r = 0; r < 8; r++) {
                    x.cast(kind, r, r, false);
                }
            }
            for (int k = 24; k < told; k++) {
                x.cast(0, 7, 0, true);
            }
            Check.same("laid", lay(x, 3, 3, 0), 1);
            Check.same("kept behind " + told, x.keep(), told == 392 ? 4 : -1);
            Check.same("casts then", x.count(4), told == 392 ? 400 : 393);
            Check.same("the last role", x.who(3, 7, false, 0), told == 392 ? 7 : -1);
        }
    }

    /** 512 calls on one object, the dearest ones among them. */
    private static void aLongLife() {
        OperaHouse x = season(2);
        Check.contract(x, 1, "leave 0 to 29;");
        for (int k = 0; k < 96; k++) {
            Check.same("given up, " + k, lay(x, 1, 29, 0, 0, 0, 0, 0, 1), -2);
            Check.same("nothing is wrong but who is away", x.wrong(0), 3);
        }
    }
}
