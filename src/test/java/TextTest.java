/** The edges of "Terms" 2: tokens, numbers, places and kinds of faults, and what of a fee just holds or does not. */
public final class TextTest {
    public static void main(String[] args) {
        lettersOfAWord();
        digitsOfANumber();
        whatEndsAWord();
        everyByte();
        limitsToTheirEdges();
        leaveToItsEdges();
        feeToItsEdges();
        numbersBehindASign();
        cutAnywhere();
        theLeastKindOfOneToken();
        theFirstAlongTheText();
        tokensAcross300();
        lateToTheHour();
        hoursOfTheCall();
        howManyethNight();
        overByHours();
        coverOfSomeRole();
        cameInstead();
        illOnItsDay();
        noFeeWithoutARule();
        Check.end();
    }

    private static void text(String text, int answer, int fault) {
        OperaHouse x = new OperaHouse();
        x.singer(1, 1, 1);
        Check.same("contract " + text, Check.contract(x, 0, text), answer);
        Check.same("fault of " + text, x.fault(), fault);
        Check.same("tape behind " + text, x.count(6), 0);
    }

    private static void good(String text, int rules) {
        text(text, rules, 0);
    }

    private static void bad(String text, int place, int kind) {
        text(text, -1 - place, kind);
    }

    /** "WORDS: small letters, 1 to 8": none of 1, 8 or 9 letters can come. */
    private static void lettersOfAWord() {
        for (int n = 1; n <= 12; n++) {
            bad(Check.repeat("r", n) + " 1;", 0, 1);
            bad("fee 1 if " + Check.repeat("r", n) + ";", 9, 1);
            bad("fee 1;" + Check.repeat("r", n), 6, 1);
        }
        String[] words = {"rest", "day", "week", "voice", "leave", "fee"};
        for (String word : words) {
            String rest = word.equals("leave") ? " 1 to 1;" : " 1;";
            good(word + rest, 1);
            bad(word + "s" + rest, 0, 1);
            bad(word.substring(1) + rest, 0, 1);
            bad(word.substring(0, word.length() - 1) + rest, 0, 1);
            bad(word + word + rest, 0, 1);
            bad((char) (word.charAt(0) - 32) + word.substring(1) + rest, 0, 1);
            bad(word.substring(0, 1) + " " + word.substring(1) + rest, 0, 1);
        }
    }

    /** "NUMBERS: 1 to 5 digits" */
    private static void digitsOfANumber() {
        for (int n = 1; n <= 12; n++) {
            text("rest " + Check.repeat("0", n) + ";", n <= 5 ? 1 : -6, n <= 5 ? 0 : 1);
            text("fee " + Check.repeat("9", n) + ";", n <= 5 ? 1 : -5, n <= 5 ? 0 : 1);
            text("rest " + Check.repeat("9", n) + ";", n == 1 ? 1 : -6, n == 1 ? 0 : n <= 5 ? 2 : 1);
            text("fee 1 if nth>" + Check.repeat("9", n) + ";", n <= 5 ? 1 : -14, n <= 5 ? 0 : 1);
            text("leave " + Check.repeat("0", n) + " to 0;", n <= 5 ? 1 : -7, n <= 5 ? 0 : 1);
        }
        good("rest 00072;", 1);
        bad("rest 00073;", 5, 2);
        bad("rest 4294967301;", 5, 1);
        bad("rest 99999999999999999999;", 5, 1);
    }

    /** "A WORD, NUMBER goes on as long as small letters and digits do" */
    private static void whatEndsAWord() {
        bad("rest1;", 0, 1);
        bad("rest1 1;", 0, 1);
        bad("1rest;", 0, 1);
        bad("rest 1day 1;", 5, 1);
        bad("leave 1to 2;", 6, 1);
        bad("leave 1 to2;", 8, 1);
        bad("fee 1if late;", 4, 1);
        bad("fee 1 iflate;", 6, 1);
        bad("fee 1 if lateor cover;", 9, 1);
        bad("fee 1 if notlate;", 9, 1);
        bad("fee 1 if hours3;", 9, 1);
        good("fee 1 if(late)or(cover)and(not(late));", 1);
        good("fee 1 if hours<3;", 1);
        bad("fee 1 if hours<3or late;", 15, 1);
        good("fee 1 if hours<3 or late;", 1);
        good("fee\n1\nif\nhours\n<\n3\n;", 1);
        good("rest 1;day 1;", 2);
        good("   rest 1;\n\n day 1;\n", 2);
    }

    /** Each of the 256 bytes where a rule begins: blanks alone, 32 and 10, can stand there. */
    private static void everyByte() {
        for (int b = 0; b < 256; b++) {
            OperaHouse x = new OperaHouse();
            x.singer(1, 1, 1);
            Check.write(x, b, 'f', 'e', 'e', ' ', '1', ';');
            boolean blank = b == 32 || b == 10;
            Check.same("byte " + b + " ahead", x.contract(0), blank ? 1 : -1);
            Check.same("its fault", x.fault(), blank ? 0 : 1);
            OperaHouse y = new OperaHouse();
            y.singer(1, 1, 1);
            Check.write(y, 'f', 'e', 'e', ' ', '1', b, ';');
            boolean digit = b >= '0' && b <= '9';
            boolean letter = b >= 'a' && b <= 'z';
            int place = letter ? 4 : b == ';' ? 6 : 5;
            Check.same("byte " + b + " behind", y.contract(0), blank || digit ? 1 : -1 - place);
            OperaHouse z = new OperaHouse();
            z.singer(1, 1, 1);
            Check.write(z, 'f', 'e', 'e', ' ', '1', ';', b);
            Check.same("byte " + b + " at the end", z.contract(0), blank ? 1 : -7);
        }
    }

    private static void limitsToTheirEdges() {
        String[] words = {"rest", "day", "week", "voice"};
        int[] low = {0, 1, 0, 1};
        int[] high = {72, 24, 7, 999};
        for (int k = 0; k < 4; k++) {
            for (int n = 0; n <= 1005; n++) {
                boolean fits = n >= low[k] && n <= high[k];
                text(words[k] + " " + n + ";", fits ? 1 : -2 - words[k].length(), fits ? 0 : 2);
            }
        }
    }

    /** "DAYS, the second not less" */
    private static void leaveToItsEdges() {
        for (int from = 0; from <= 31; from++) {
            for (int to = 0; to <= 31; to++) {
                String text = "leave " + from + " to " + to + ";";
                if (from > 29) {
                    bad(text, 6, 2);
                } else if (to < from || to > 29) {
                    bad(text, text.length() - 1 - (to > 9 ? 2 : 1), 2);
                } else {
                    good(text, 1);
                }
            }
        }
    }

    private static void feeToItsEdges() {
        for (String n : new String[] {"0", "1", "9999", "10000", "99998", "99999"}) {
            OperaHouse x = Check.plainHouse(2, 1, 1, 1);
            int c = Check.castCall(x, 0, 0, 0, 0, 0);
            Check.same("fee " + n, Check.contract(x, 0, "fee " + n + ";"), 1);
            Check.same("a fee of " + n, x.fee(0, c, 0), Integer.parseInt(n));
            Check.same("paid " + n, x.pay(0, 29, 0), Integer.parseInt(n));
        }
        bad("fee 100000;", 4, 1);
    }

    /** "one behind a SIGN may be any" */
    private static void numbersBehindASign() {
        String[] words = {"hours", "nth", "over"};
        for (String word : words) {
            for (String sign : new String[] {"<", "=", ">"}) {
                for (String n : new String[] {"0", "7", "99999", "00000"}) {
                    good("fee 1 if " + word + sign + n + ";", 1);
                }
                bad("fee 1 if " + word + sign + "100000;", 10 + word.length(), 1);
                bad("fee 1 if " + word + sign + ";", 10 + word.length(), 1);
                bad("fee 1 if " + word + sign + "late;", 10 + word.length(), 1);
                bad("fee 1 if " + word + sign + sign + "1;", 10 + word.length(), 1);
                bad("fee 1 if " + sign + "1;", 9, 1);
            }
            bad("fee 1 if " + word + " 1;", 10 + word.length(), 1);
            bad("fee 1 if " + word + ";", 9 + word.length(), 1);
            bad("fee 1 if late=1;", 13, 1);
        }
    }

    /** "the end: how many bytes there are": a text that is cut has its fault there, or at the word that is cut. */
    private static void cutAnywhere() {
        String text = "leave 1 to 2;fee 5 if not (nth=12 or late)and cover;rest 12;";
        // cut within "leave" or "to" the fault is at that word
        for (int n = 0; n <= 13; n++) {
            String cut = text.substring(0, n);
            int place = n == 0 || n == 13 ? -1 : n < 5 ? 0 : n == 9 ? 8 : n;
            if (place < 0) {
                good(cut, n == 0 ? 0 : 1);
            } else {
                bad(cut, place, 1);
            }
        }
        int[] ends = {16, 17, 18, 21, 25, 27, 30, 31, 33, 36, 41, 42, 45, 51};
        for (int end : ends) {
            bad(text.substring(0, end), end, 1);
            bad(text.substring(0, end) + " ", end + 1, 1);
            bad(text.substring(0, end) + " \n ", end + 3, 1);
        }
        good(text.substring(0, 52), 2);
        good(text, 3);
    }

    /** "of one TOKEN the least" */
    private static void theLeastKindOfOneToken() {
        String forty = "fee 1 if " + Check.repeat("late or ", 12) + "late;fee 1 if " + Check.repeat("room or ", 15)
                + "room;fee 1 if " + Check.repeat("((", 5) + "full" + Check.repeat("))", 5);
        good(forty + ";", 3);
        // what can't come is 1, though it would also be the 41st one
        bad(forty + " or ;", forty.length() + 4, 1);
        bad(forty + " or 5;", forty.length() + 4, 1);
        bad(forty + " or rest;", forty.length() + 4, 1);
        bad(forty + " or )", forty.length() + 4, 1);
        bad(forty + " or nights;", forty.length() + 4, 1);
        for (String one : new String[] {"late", "(", "not", "hours", "nth", "over", "cover", "instead", "night"}) {
            bad(forty + " or " + one, forty.length() + 4, 4);
        }
        String deep = "fee 1 if " + Check.repeat("(", 12);
        bad(deep + ")", 21, 1);
        bad(deep + "5", 21, 1);
        bad(deep, 21, 1);
        bad(deep + "late", 21, 4);
        bad(deep + "(", 21, 4);
        // a number of six digits is no token, whatever it tells
        bad("day 100000;", 4, 1);
        bad("leave 99999 to 1;", 6, 2);
        bad("leave 100000 to 1;", 6, 1);
    }

    private static void theFirstAlongTheText() {
        bad("rest 99;rest 99;?", 5, 2);
        bad("rest 9;rest 99;?", 7, 3);
        bad("rest ?;rest 99;", 5, 1);
        bad("leave 30 to 99 ?", 6, 2);
        bad("leave 3 to 2 ?", 11, 2);
        bad("leave 3 of 2", 8, 1);
        bad("leave 30 of 2", 6, 2);
        String seven = Check.repeat("leave 0 to 0;", 6);
        bad(seven + "leave 99 to 0;", seven.length(), 3);
        bad(seven + "leave", seven.length(), 3);
        bad(seven + "leaves", seven.length(), 1);
        String nine = Check.repeat("fee 0;", 8);
        bad(nine + "fee 100000;", nine.length(), 3);
        bad(nine + "fee", nine.length(), 3);
        bad(nine + "fees", nine.length(), 1);
        bad("fee 1 if late;voice 0;fee", 20, 2);
    }

    /** "300, if there are more and no FAULT is ahead: TOKENS that begin ahead of it are read whole" */
    private static void tokensAcross300() {
        for (int begin = 288; begin <= 303; begin++) {
            String blanks = Check.repeat(" ", begin - 5);
            // the number begins at such a place, and the text ends at 304 and behind
            bad("rest " + blanks + "00072" + Check.repeat(" ", 12) + ";", Math.min(begin + 17, 300), 1);
            bad("rest " + blanks + "00073" + Check.repeat(" ", 12) + ";", begin < 300 ? begin : 300, begin < 300 ? 2 : 1);
            bad("rest " + blanks + "000072" + Check.repeat(" ", 12) + ";", begin < 300 ? begin : 300, 1);
            String word = Check.repeat(" ", begin);
            bad(word + "rest 99;" + Check.repeat(" ", 12), begin + 5 < 300 ? begin + 5 : 300, begin + 5 < 300 ? 2 : 1);
            bad(word + "rust 99;" + Check.repeat(" ", 12), begin < 300 ? begin : 300, 1);
            int again = begin - 7;
            bad("rest 1;" + Check.repeat(" ", begin - 7) + "rest 1;" + Check.repeat(" ", 12),
                    begin < 300 ? begin : 300, begin < 300 ? 3 : 1);
            Check.yes("places", again >= 0);
        }
        for (int bytes = 299; bytes <= 302; bytes++) {
            String blanks = Check.repeat(" ", bytes - 6);
            text(blanks + "fee 1;", bytes <= 300 ? 1 : -301, bytes <= 300 ? 0 : 1);
            text(blanks + " fee 1", bytes <= 300 ? -1 - bytes : -301, 1);
            text(blanks + "fee 1!", -1 - Math.min(300, bytes - 1), 1);
        }
    }

    // ---- fees ----

    private static OperaHouse house(int hours, String text) {
        OperaHouse x = new OperaHouse();
        Check.opera(x, hours, 0, false, 1, 0, 1, 0, 0, 0, 1, 0, 0);
        for (int s = 0; s < 3; s++) {
            x.singer(1, 1, 0);
        }
        Check.yes("a good text", Check.contract(x, 0, text) > 0);
        return x;
    }

    /** "late: it ends behind HOUR 22" */
    private static void lateToTheHour() {
        for (int hours = 2; hours <= 6; hours++) {
            int[] length = {2, 3, hours, hours};
            for (int kind = 0; kind < 4; kind++) {
                for (int end = 20; end <= 24; end++) {
                    OperaHouse x = house(hours, "fee 1 if late;fee 2 if not late;");
                    int first = Check.castCall(x, 0, end - length[kind], kind, 0, 0);
                    int last = Check.castCall(x, 29, end - length[kind], kind, 0, 0);
                    Check.same("ends at " + end + " on day 0", x.fee(0, first, 0), end > 22 ? 1 : 2);
                    Check.same("ends at " + end + " on day 29", x.fee(0, last, 0), end > 22 ? 1 : 2);
                }
            }
        }
    }

    /** "hours: of the CALL", with each sign and the number below, the same and the one above. */
    private static void hoursOfTheCall() {
        for (int hours = 2; hours <= 6; hours++) {
            int[] length = {2, 3, hours, hours};
            for (int kind = 0; kind < 4; kind++) {
                for (int n = length[kind] - 1; n <= length[kind] + 1; n++) {
                    OperaHouse x = house(hours, "fee 1 if hours<" + n + ";fee 2 if hours=" + n + ";fee 4 if hours>" + n + ";");
                    int c = Check.castCall(x, 5, 5, kind, 0, 0);
                    int due = length[kind] < n ? 1 : length[kind] == n ? 2 : 4;
                    Check.same(length[kind] + " hours and " + n, x.fee(0, c, 0), due);
                }
            }
        }
    }

    /** "nth: the how-many-th NIGHT of one's it is (...; 0, if it is none)" */
    private static void howManyethNight() {
        for (int n = 0; n <= 5; n++) {
            OperaHouse x = house(2, "fee 1 if nth<" + n + ";fee 2 if nth=" + n + ";fee 4 if nth>" + n + ";");
            for (int k = 1; k <= 4; k++) {
                int night = Check.castCall(x, 2 * k, 5, 3, 0, 0);
                int full = Check.castCall(x, 2 * k + 1, 5, 2, 0, 0);
                x.call(2 * k, 0, 3, 0, 0);
                Check.same("night " + k + " and " + n, x.fee(0, night, 0), k < n ? 1 : k == n ? 2 : 4);
                Check.same("no night and " + n, x.fee(0, full, 0), 0 < n ? 1 : 2);
            }
        }
    }

    /** "over: HOURS of one's CALLS on its DAY, ..., more than 'day' tells (0 at least)" */
    private static void overByHours() {
        for (int n = 0; n <= 6; n++) {
            OperaHouse x = house(2, "day 5;fee 1 if over<" + n + ";fee 2 if over=" + n + ";fee 4 if over>" + n + ";");
            for (int k = 1; k <= 5; k++) {
                int c = Check.castCall(x, 3, 3 * k, 0, 0, 0);
                Check.castCall(x, 2, 3 * k, 0, 0, 0);
                int over = Math.max(0, 2 * k - 5);
                Check.same(2 * k + " hours of 5 and " + n, x.fee(0, c, 0), over < n ? 1 : over == n ? 2 : 4);
            }
        }
    }

    /** "cover: one is a COVER of it (in some ROLE)", also of a later call, and "(nth, over: 0)". */
    private static void coverOfSomeRole() {
        for (int role = 0; role < 2; role++) {
            OperaHouse x = house(2, "day 1;fee 1 if cover;fee 2 if nth=0 and over=0;fee 4 if instead;fee 8;");
            for (int c = 0; c < 3; c++) {
                Check.castCall(x, 9, 3 * c, 3, 0, 1);
            }
            for (int c = 0; c < 3; c++) {
                x.cast(c, role, 0, true);
                for (int d = 0; d < 3; d++) {
                    Check.same("call " + d + " where " + c + " is covered", x.fee(0, d, 0), d <= c ? 11 : 0);
                }
            }
            x.cast(1, role, 2, true);
            Check.same("a cover no more", x.fee(0, 1, 0), 0);
            // role 0 is another one's, so in that one comes instead
            int instead = role == 1 ? 4 : 0;
            x.cast(1, 1 - role, 0, false);
            Check.same("cast in the other role", x.fee(0, 1, 0), 8 + instead);
            x.cast(1, role, 0, true);
            Check.same("cast in one, a cover of the other", x.fee(0, 1, 0), 9 + instead);
            x.cast(1, role, -1, true);
            Check.same("nobody covers", x.fee(0, 1, 0), 8 + instead);
            x.cast(1, 1 - role, -1, false);
            Check.same("neither", x.fee(0, 1, 0), 0);
        }
    }

    /** "(the CAST ahead of the latest one)": each row of casts of one role, and whether 0 came instead. */
    private static void cameInstead() {
        int[][] rows = {{0}, {0, 0}, {1, 0}, {-1, 0}, {1, -1, 0}, {1, 0, 0}, {1, 0, 1, 0}, {0, -1, 0}, {2, 1, 0},
            {0, 1, 0}, {1, 1, 0}, {-1, -1, 0}, {-1, 1, 0}};
        boolean[] due = {false, false, true, false, false, false, true, false, true, true, true, false, true};
        for (int role = 0; role < 2; role++) {
            for (int k = 0; k < rows.length; k++) {
                OperaHouse x = house(2, "fee 1;fee 2 if instead;");
                x.call(9, 9, 0, 0, 0);
                int c = x.call(9, 12, 0, 0, 0);
                for (int s : rows[k]) {
                    x.cast(0, role, 0, false);
                    x.cast(c, role, s, false);
                    x.cast(c, 1 - role, 1, true);
                }
                Check.same("row " + k + " in role " + role, x.fee(0, c, 0), due[k] ? 3 : 1);
                Check.same("of the other call", x.fee(0, 0, 0), 1);
            }
        }
    }

    /** "Who is ILL on its DAY has none." */
    private static void illOnItsDay() {
        for (int day = 0; day < 30; day++) {
            OperaHouse x = house(2, "fee 5;");
            int cast = Check.castCall(x, day, 0, 0, 0, 0);
            int cover = x.call(day, 3, 0, 0, 0);
            x.cast(cover, 1, 0, true);
            if (day > 0) {
                x.ill(0, 0, day - 1);
            }
            if (day < 29) {
                x.ill(0, day + 1, 29);
            }
            x.ill(1, 0, 29);
            Check.same("ill on all days but " + day, x.fee(0, cast, 0) + x.fee(0, cover, 0), 10);
            x.ill(0, day, day);
            Check.same("ill on " + day + ", too", x.fee(0, cast, 0) + x.fee(0, cover, 0), 0);
            Check.same("before it was known", x.pay(0, 29, -1), 0);
        }
    }

    private static void noFeeWithoutARule() {
        OperaHouse x = house(2, "rest 1;");
        int c = Check.castCall(x, 0, 0, 3, 0, 0);
        Check.same("no fee is told", x.fee(0, c, 0), 0);
        Check.same("none is paid", x.pay(0, 29, 0), 0);
        Check.contract(x, 0, "fee 3;fee 3;");
        Check.same("two like ones are two", x.fee(0, c, 0), 6);
        Check.contract(x, 0, "");
        Check.same("no text, no fee", x.fee(0, c, 0), 0);
    }
}
