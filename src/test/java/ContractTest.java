/** Promises 9 and 10: contract and fault. */
public final class ContractTest {
    private static OperaHouse x;

    public static void main(String[] args) {
        whoAndTape();
        goodTexts();
        tokens();
        places();
        limits();
        leaves();
        fees();
        conds();
        manyOnes();
        deepOnes();
        longTexts();
        staysAsItWas();
        limitsHold();
        Check.end();
    }

    private static void newHouse() {
        x = new OperaHouse();
        x.singer(63, 63, 5);
    }

    /** A text that is good, and how many rules it has. */
    private static void good(String text, int rules) {
        newHouse();
        Check.same("contract " + text, Check.contract(x, 0, text), rules);
        Check.same("fault of " + text, x.fault(), 0);
    }

    private static void bad(String text, int place, int kind) {
        newHouse();
        Check.same("contract " + text, Check.contract(x, 0, text), -1 - place);
        Check.same("fault of " + text, x.fault(), kind);
    }

    private static String times(String text, int n) {
        StringBuilder b = new StringBuilder();
        for (int k = 0; k < n; k++) {
            b.append(text);
        }
        return b.toString();
    }

    private static void whoAndTape() {
        OperaHouse y = new OperaHouse();
        Check.same("no singer", Check.contract(y, 0, "rest 1;"), -1000);
        Check.same("the tape is empty behind it", y.count(6), 0);
        y.singer(1, 1, 1);
        Check.same("a fault", Check.contract(y, 0, "rest 99;"), -6);
        Check.same("the tape is empty behind a fault", y.count(6), 0);
        Check.same("its kind", y.fault(), 2);
        Check.same("singer -1", y.contract(-1), -1000);
        Check.same("singer 1", y.contract(1), -1000);
        Check.same("-1000 leaves the kind", y.fault(), 2);
        Check.same("good", Check.contract(y, 0, "rest 1;"), 1);
        Check.same("the tape is empty behind a good one", y.count(6), 0);
        Check.same("kind 0", y.fault(), 0);
        Check.same("-1000 leaves it", y.contract(5), -1000);
        Check.same("kind 0 still", y.fault(), 0);
    }

    private static void goodTexts() {
        good("", 0);
        good(" \n ", 0);
        good("rest 1;day 2;week 3;voice 4;leave 1 to 2;fee 5;", 6);
        good("fee 5 if room or marks and full or not ( night ) and(late)or cover;", 1);
        good("fee 5 if hours<1 or nth=99999 or over>00000;", 1);
        good("\nrest\n1\n;\n", 1);
        good("leave 0 to 29;leave 5 to 5;", 2);
    }

    private static void tokens() {
        bad("?", 0, 1);
        bad("rest 1!;", 6, 1);
        bad("Rest 1;", 0, 1);
        bad("rest\t1;", 4, 1);
        bad("restoring 1;", 0, 1);
        bad("rest1;", 0, 1);
        bad("rest 1a;", 5, 1);
        bad("rest 123456;", 5, 1);
        bad("rest 000001;", 5, 1);
        good("rest 00001;", 1);
        bad("day", 3, 1);
        bad("toto 1;", 0, 1);
        bad("fee 1 if nothing;", 9, 1);
        bad("fee 1 if insteads;", 9, 1);
        bad("res t 1;", 0, 1);
        bad("rest -1;", 5, 1);
        bad("rest 1`;", 6, 1);
        bad("rest 1{;", 6, 1);
        bad("rest 1/;", 6, 1);
        bad("rest 1:;", 6, 1);
        bad("restz 1;", 0, 1);
        bad("zrest 1;", 0, 1);
        bad("rest 1z;", 5, 1);
        bad("rest 9a;", 5, 1);
        bad("fee 1 if nthz=1;", 9, 1);
        bad("fee 1 if nth=9z;", 13, 1);
        behindTheEnd();
    }

    /** Bytes that the tape had once are no more of the text. */
    private static void behindTheEnd() {
        newHouse();
        Check.write(x, "fee 12345;rest 10;");
        x.end(3);
        Check.same("a word at the end", x.contract(0), -4);
        Check.write(x, "fee 12345;rest 10;");
        x.end(6);
        Check.same("a number at the end", x.contract(0), -7);
        Check.write(x, "fee 12345;    ;");
        x.end(10);
        Check.same("a rule at the end", x.contract(0), 1);
        Check.write(x, "fee 1 if late;");
        x.end(13);
        Check.same("a cond at the end", x.contract(0), -14);
    }

    private static void places() {
        bad("rest", 4, 1);
        bad("rest  ", 6, 1);
        bad("rest 1", 6, 1);
        bad("rest ;", 5, 1);
        bad("rest to;", 5, 1);
        bad("rest 1 1;", 7, 1);
        bad(";", 0, 1);
        bad("rest 1;;", 7, 1);
        bad("1;", 0, 1);
        bad("to 1;", 0, 1);
        bad("if room;", 0, 1);
        bad("room;", 0, 1);
        bad("rest 1; xyz 2; day 99;", 8, 1);
        bad("rest 99; xyz;", 5, 2);
        bad("leave 1;", 7, 1);
        bad("leave 1 2;", 8, 1);
        bad("leave 1 to;", 10, 1);
        bad("leave to 2;", 6, 1);
        bad("leave 1 to 2", 12, 1);
        bad("fee;", 3, 1);
        bad("fee x;", 4, 1);
        bad("fee 1 room;", 6, 1);
        bad("fee 1 or;", 6, 1);
        bad("fee 1 if;", 8, 1);
        bad("fee 1 if room late;", 14, 1);
        bad("fee 1 if room if late;", 14, 1);
        bad("fee 1 if room or;", 16, 1);
        bad("fee 1 if room and;", 17, 1);
        bad("fee 1 if or room;", 9, 1);
        bad("fee 1 if not;", 12, 1);
        bad("fee 1 if (room;", 14, 1);
        bad("fee 1 if ();", 10, 1);
        bad("fee 1 if room);", 13, 1);
        bad("fee 1 if hours;", 14, 1);
        bad("fee 1 if hours 5;", 15, 1);
        bad("fee 1 if hours<;", 15, 1);
        bad("fee 1 if hours<<5;", 15, 1);
        bad("fee 1 if hours<room;", 15, 1);
        bad("fee 1 if room<5;", 13, 1);
        bad("fee 1 if <5;", 9, 1);
        bad("fee 1 if 5;", 9, 1);
        bad("fee 1 if rest;", 9, 1);
    }

    private static void limits() {
        String[] words = {"rest", "day", "week", "voice"};
        int[] low = {0, 1, 0, 1};
        int[] high = {72, 24, 7, 999};
        for (int k = 0; k < 4; k++) {
            int at = words[k].length() + 1;
            good(words[k] + " " + low[k] + ";", 1);
            good(words[k] + " " + high[k] + ";", 1);
            bad(words[k] + " " + (high[k] + 1) + ";", at, 2);
            bad(words[k] + " 99999;", at, 2);
            if (low[k] > 0) {
                bad(words[k] + " 0;", at, 2);
            }
            bad(words[k] + " 5;fee 1;" + words[k] + " 5;", at + 8, 3);
            bad(words[k] + " 5;" + words[k] + "!", at + 2, 3);
        }
    }

    private static void leaves() {
        good(times("leave 3 to 4;", 6), 6);
        bad(times("leave 3 to 4;", 6) + " leave 3 to 4;", 79, 3);
        bad("leave 30 to 30;", 6, 2);
        bad("leave 29 to 30;", 12, 2);
        bad("leave 5 to 4;", 11, 2);
        bad("leave 30 or 30;", 6, 2);
    }

    private static void fees() {
        good(times("fee 7;", 8), 8);
        bad(times("fee 7;", 8) + "fee 7;", 48, 3);
        bad(times("fee 7;", 8) + "fee", 48, 3);
        good("fee 0;fee 99999;", 2);
        bad("fee 100000;", 4, 1);
        String all = "rest 1;day 1;week 1;voice 1;" + times("leave 1 to 1;", 6) + times("fee 1;", 8);
        good(all, 18);
        bad(all + "day 1;", all.length(), 3);
        bad(all + "leave", all.length(), 3);
        bad(all + "fee 1;", all.length(), 3);
        bad(all + "or", all.length(), 1);
    }

    private static void conds() {
        good("fee 1 if not not room;", 1);
        good("fee 1 if ((room));", 1);
        good("fee 1 if not(room or not late)and(cover);", 1);
        bad("fee 1 if not and room;", 13, 1);
        bad("fee 1 if (room or) and late;", 17, 1);
    }

    /** n ones without any other one around them. */
    private static String flat(int n) {
        return "fee 1 if room" + times(" or late", n - 1);
    }

    private static void manyOnes() {
        good(flat(20) + ";", 1);
        // 21 and 19 in two fees are 40; written shortly, so as to be 300 bytes at most
        good("fee 1 if " + times("late or ", 20) + "late;fee 1 if " + times("room or ", 12) + "room;", 2);
        String forty = "fee 1 if(" + times("(room)or", 19) + " room)";
        good(forty + ";", 1);
        bad(forty + "or late;", forty.length() + 3, 4);
        bad(forty + "or nots;", forty.length() + 3, 1);
        bad(forty + ";fee 1 if room;", forty.length() + 10, 4);
        bad(forty + ";fee 1 if (room);", forty.length() + 10, 4);
        bad(forty + ";fee 1 if );", forty.length() + 10, 1);
        String thirtyNine = "fee 1 if(" + times("(room)or", 18) + " room)or late";
        good(thirtyNine + ";fee 1 if hours=2;", 2);
        bad(thirtyNine + ";fee 1 if (full);", thirtyNine.length() + 11, 4);
        bad(thirtyNine + ";fee 1 if not full;", thirtyNine.length() + 14, 4);
    }

    private static void deepOnes() {
        good("fee 1 if " + times("not ", 11) + "room;", 1);
        bad("fee 1 if " + times("not ", 12) + "room;", 57, 4);
        bad("fee 1 if " + times("not ", 13) + "room;", 57, 4);
        bad("fee 1 if " + times("not ", 12) + ";", 57, 1);
        good("fee 1 if " + times("(", 11) + "room" + times(")", 11) + ";", 1);
        bad("fee 1 if " + times("(", 12) + "room" + times(")", 12) + ";", 21, 4);
        good("fee 1 if " + times("(not ", 5) + "(room)" + times(")", 5) + ";", 1);
        bad("fee 1 if " + times("(not ", 6) + "(room)" + times(")", 6) + ";", 39, 4);
        good("fee 1 if " + times("(", 11) + "room or late and full" + times(")", 11) + " or " + times("not ", 11)
                + "night;", 1);
    }

    private static void longTexts() {
        String rule = "rest 1;";
        good(rule + times(" ", 293), 1);
        bad(rule + times(" ", 294), 300, 1);
        bad(rule + times(" ", 333), 300, 1);
        bad(times(" ", 301), 300, 1);
        bad(rule + times(" ", 293) + rule, 300, 1);
        bad(rule + times(" ", 292) + rule, 299, 3);
        bad("rest" + times(" ", 296) + "99;", 300, 1);
        bad("rest" + times(" ", 295) + "99;", 299, 2);
        good(times(" ", 300), 0);
        bad(times(" ", 300) + "!", 300, 1);
        bad(times(" ", 299) + "!" + times(" ", 20), 299, 1);
        bad(times(" ", 293) + rule + "fee 1;", 300, 1);
        good(times(" ", 293) + rule, 1);
        // tokens that begin ahead of 300 are read whole
        bad(times(" ", 294) + "rest 71;", 300, 1);
        bad(times(" ", 294) + "rest 91;", 299, 2);
        bad(times(" ", 297) + "rest 1;", 300, 1);
        bad(times(" ", 297) + "rust 1;", 297, 1);
        bad(times(" ", 294) + "rest 123456;", 299, 1);
        bad(times(" ", 294) + "rest 12345;", 299, 2);
        bad(times(" ", 299) + "restoring", 299, 1);
        bad("rest 99;" + times(" ", 320), 5, 2);
        // within 300 the end is where the bytes are at an end
        bad(times(" ", 296) + "rest", 300, 1);
        bad(times(" ", 296) + "rest ", 300, 1);
    }

    private static void staysAsItWas() {
        OperaHouse y = new OperaHouse();
        Check.opera(y, 2, 0, false, 1, 0, 1, 0, 0);
        y.singer(1, 1, 0);
        y.cast(y.call(3, 0, 0, 0, 0), 0, 0, false);
        Check.contract(y, 0, "fee 70;leave 3 to 3;");
        Check.same("the fee", y.fee(0, 0, 0), 70);
        Check.same("a fault behind good rules", Check.contract(y, 0, "fee 9;fee 8;oh"), -13);
        Check.same("the fee stays", y.fee(0, 0, 0), 70);
        Check.same("the leave stays", Check.times(y, 0, 10, 0, 0), 1);
        Check.same("a new one", Check.contract(y, 0, "fee 9;"), 1);
        Check.same("the new fee alone", y.fee(0, 0, 0), 9);
        Check.same("no leave", Check.times(y, 0, 10, 0, 0), 0);
        Check.same("none again", Check.contract(y, 0, ""), 0);
        Check.same("no fee", y.fee(0, 0, 0), 0);
        for (int k = 0; k < 12; k++) {
            Check.contract(y, 0, "fee 1 if " + times("late or ", 30) + "late;fee 2 if room and not (cover or full);");
            Check.same("the same again and again", y.fee(0, 0, 0), 2);
        }
        y.next(5);
        Check.contract(y, 0, "fee 4;");
        Check.same("contracts are there for all days", y.fee(0, 0, 0), 4);
    }

    private static void limitsHold() {
        OperaHouse y = new OperaHouse();
        Check.opera(y, 2, 0, false, 1, 0, 30, 0, 0);
        y.singer(1, 1, 0);
        y.singer(1, 1, 0);
        y.cast(y.call(0, 0, 2, 0, 0), 0, 0, false);
        Check.contract(y, 0, "voice 29;");
        Check.same("30 is more than 29", Check.times(y, 0, 15, 0, 0), 1);
        Check.contract(y, 1, "voice 1;");
        Check.contract(y, 0, "voice 30;");
        Check.same("each has one's own", Check.times(y, 0, 15, 0, 0), 0);
        Check.contract(y, 0, "rest 3;");
        Check.same("what is not told is as without a text", Check.times(y, 0, 15, 0, 0), 0);
    }
}
