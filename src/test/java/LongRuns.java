/**
 * Runs of all 512 calls, each leaning to one side (fees, steads, crowds, all that has a limit, tapes, texts, nights,
 * days, edges) and mixed with calls of any kind, so that what is asked late is asked of a house with much behind it.
 * Each answer is held against Model's.
 */
public final class LongRuns extends Both {
    private static final int LEANINGS = 10;
    /** How often each method was asked, and how often it answered neither NONE nor false. */
    private static final int[] asked = new int[28];
    private static final int[] well = new int[28];
    private static int noWay, givenUp;
    private static final String[] NAMES = {"feed", "end", "next", "opera", "singer", "players", "chorus", "contract",
        "fault", "learn", "call", "cast", "ill", "who", "wrong", "told", "learned", "tired", "fee", "pay", "moves",
        "may", "harm", "instead", "lay", "laid", "keep", "count"};
    private static final int[] HOURS = {0, 5, 8, 9, 10, 11, 12, 13, 15, 16, 17, 18, 19, 20, 21, 22};

    private LongRuns(long seed) {
        super(seed);
    }

    public static void main(String[] args) {
        int runs = args.length > 0 ? Integer.parseInt(args[0]) : 200;
        int from = args.length > 1 ? Integer.parseInt(args[1]) : 0;
        int failed = 0;
        for (int run = from; run < from + runs && failed < 3; run++) {
            LongRuns r = new LongRuns(run * 104729L + 7);
            r.run(run % LEANINGS);
            failed += r.good ? 0 : 1;
        }
        StringBuilder seen = new StringBuilder();
        for (int k = 0; k < NAMES.length; k++) {
            seen.append(NAMES[k]).append(' ').append(well[k]).append('/').append(asked[k]).append(k == 27 ? "" : ", ");
        }
        System.out.println(seen + "; of the lays no way " + noWay + ", given up " + givenUp);
        System.out.println(failed == 0 ? "all answers are as the model's" : failed + " runs differ");
        if (failed > 0) {
            System.exit(1);
        }
    }

    private int call(String name, int... a) {
        if (!goesOn()) {
            return -1;
        }
        int answer = ask(name, a);
        for (int k = 0; k < NAMES.length; k++) {
            if (NAMES[k].equals(name)) {
                asked[k]++;
                well[k] += answer < 0 || answer == 0 && isTruth(name) ? 0 : 1;
            }
        }
        if (name.equals("lay")) {
            noWay += answer == 0 ? 1 : 0;
            givenUp += answer == -2 ? 1 : 0;
        }
        return answer;
    }

    private static boolean isTruth(String name) {
        return name.equals("end") || name.equals("players") || name.equals("chorus") || name.equals("learn")
                || name.equals("cast") || name.equals("ill") || name.equals("may");
    }

    private void run(int leaning) {
        switch (leaning) {
            case 0:
                fees();
                break;
            case 1:
                steads();
                break;
            case 2:
                crowds();
                break;
            case 3:
                manyOfAll();
                break;
            case 4:
                manyCasts();
                break;
            case 5:
                tapes();
                break;
            case 6:
                nights();
                break;
            case 7:
                days();
                break;
            case 8:
                texts();
                break;
            default:
                edges();
        }
        // what is left of the 512 calls
        while (goesOn()) {
            anything();
        }
    }

    // ---- the house ----

    private void opera(int roles, int hours, int set, int chorus, int need, int seats) {
        int[] bytes = new int[4 + 4 * roles];
        for (int g = 0; g < 4; g++) {
            bytes[g] = below(seats + 1);
        }
        for (int r = 0; r < roles; r++) {
            bytes[4 + 4 * r] = below(2);
            bytes[5 + 4 * r] = between(1, 30);
            bytes[6 + 4 * r] = below(2);
            bytes[7 + 4 * r] = between(4, 6);
        }
        if (model.tape.size() > 0) {
            call("end", 0);
        }
        write(bytes);
        call("opera", hours, set, chorus, need);
    }

    private void singers(int n) {
        for (int k = 0; k < n; k++) {
            call("singer", one(5) ? between(1, 3) : 3, one(5) ? between(1, 3) : 63, between(4, 6));
        }
    }

    private void contract(int s, String text) {
        if (model.tape.size() > 0) {
            call("end", 0);
        }
        write(text);
        call("contract", s);
        if (one(3)) {
            call("fault");
        }
    }

    private void players(int most) {
        for (int g = 0; g < 4; g++) {
            call("players", g, below(most + 1), below(most + 1));
        }
    }

    /** A call of a kind, its roles given to some singers. */
    private int fullCall(int day, int hour, int kind, int opera, int halves) {
        int c = call("call", day, hour, kind, opera, halves);
        if (c >= 0) {
            for (int r = 0; r < rolesOf(c); r++) {
                if (!one(9)) {
                    call("cast", c, r, someSinger(), 0);
                }
                if (one(4)) {
                    call("cast", c, r, someSinger(), 1);
                }
            }
        }
        return c;
    }

    private int rolesOf(int c) {
        return model.isCall(c) ? model.workOf(model.events.get(c)).roles.size() : 1;
    }

    private int someSinger() {
        return one(60) ? some(-2, -1, model.singers.size()) : below(Math.max(1, model.singers.size()));
    }

    private int someOpera() {
        return one(60) ? some(-1, model.operas.size()) : below(Math.max(1, model.operas.size()));
    }

    private int someCall() {
        return one(60) ? some(-1, model.events.size()) : below(Math.max(1, model.events.size()));
    }

    private int someRole(int c) {
        return one(60) ? some(-1, rolesOf(c)) : below(rolesOf(c));
    }

    private int someDay() {
        return one(60) ? some(-1, 30) : Math.min(29, model.today + below(9));
    }

    /** A day as of which something is asked: mostly one on which something may have been told. */
    private int asOf() {
        return one(20) ? some(-1, 29, 30, Integer.MIN_VALUE, Integer.MAX_VALUE) : one(3) ? model.today : below(model.today + 2);
    }

    // ---- texts ----

    private String limits() {
        StringBuilder b = new StringBuilder();
        b.append(one(2) ? "rest " + some(0, 1, 8, 12, 20, 36, 72) + ";" : "");
        b.append(one(2) ? "day " + between(1, 8) + ";" : "");
        b.append(one(2) ? "week " + between(0, 4) + ";" : "");
        b.append(one(2) ? "voice " + some(1, 10, 20, 30, 45, 60, 100, 999) + ";" : "");
        if (one(3)) {
            int from = someDay() & 15;
            b.append("leave " + from + " to " + (from + below(3)) + ";");
        }
        return b.toString();
    }

    private String feeText() {
        StringBuilder b = new StringBuilder(one(2) ? "day " + between(1, 9) + ";" : "");
        for (int k = between(1, 8); k > 0 && b.length() < 240; k--) {
            b.append("fee ").append(one(9) ? 99999 - below(9) : 1 << 2 * k);
            if (!one(6)) {
                b.append(" if ");
                cond(b, 2);
            }
            b.append(';');
        }
        if (b.length() > 300) {
            b.setLength(300);
        }
        return b.toString();
    }

    private void cond(StringBuilder b, int left) {
        all(b, left);
        while (one(4)) {
            b.append(" or ");
            all(b, left);
        }
    }

    private void all(StringBuilder b, int left) {
        oneOf(b, left);
        while (one(3)) {
            b.append(" and ");
            oneOf(b, left);
        }
    }

    private void oneOf(StringBuilder b, int left) {
        String[] plain = {"room", "marks", "full", "night", "late", "cover", "instead"};
        String[] counted = {"hours", "nth", "over"};
        int which = below(left > 0 ? 9 : 6);
        if (which < 3) {
            b.append(plain[below(7)]);
        } else if (which < 6) {
            b.append(counted[below(3)]).append("<=>".charAt(below(3))).append(below(6));
        } else if (which == 6) {
            b.append("not ");
            oneOf(b, left - 1);
        } else {
            b.append('(');
            cond(b, left - 1);
            b.append(')');
        }
    }

    // ---- leanings ----

    private void fees() {
        for (int o = between(1, 3); o > 0; o--) {
            opera(between(1, 3), between(2, 6), below(4), below(2), between(1, 6), 0);
        }
        singers(4);
        for (int s = 0; s < 4; s++) {
            contract(s, feeText());
        }
        for (int k = 0; k < 22; k++) {
            fullCall(below(7), HOURS[below(HOURS.length)], one(3) ? below(3) : 3, someOpera(), below(4));
        }
        while (goesOn()) {
            int c = someCall();
            switch (below(12)) {
                case 0:
                    call("cast", c, someRole(c), someSinger(), one(3) ? 1 : 0);
                    break;
                case 1:
                    if (one(3)) {
                        contract(someSinger(), feeText());
                    } else {
                        anything();
                    }
                    break;
                case 2:
                    call("ill", someSinger(), someDay(), someDay());
                    break;
                case 3:
                case 4:
                    call("pay", someSinger(), one(2) ? below(8) : someDay(), asOf());
                    break;
                case 5:
                    call("harm", someSinger(), c, someRole(c));
                    break;
                default:
                    call("fee", someSinger(), c, asOf());
            }
        }
    }

    private void steads() {
        for (int o = 0; o < 2; o++) {
            opera(between(1, 3), between(2, 5), 0, 0, between(1, 12), 0);
        }
        singers(6);
        for (int s = 0; s < 6; s++) {
            contract(s, limits() + (one(2) ? feeText() : "fee 100;"));
        }
        for (int k = 0; k < 18; k++) {
            int c = call("call", below(9), HOURS[below(HOURS.length)], below(4), someOpera(), 0);
            for (int r = 0; r < rolesOf(c); r++) {
                if (!one(3)) {
                    call("cast", c, r, below(3), 0);
                }
                if (one(3)) {
                    call("cast", c, r, someSinger(), 1);
                }
            }
        }
        while (goesOn()) {
            int c = someCall();
            int s = someSinger();
            switch (below(14)) {
                case 0:
                    call("cast", c, someRole(c), s, below(2));
                    break;
                case 1:
                    contract(s, limits());
                    break;
                case 2:
                    call("ill", s, someDay(), someDay());
                    break;
                case 3:
                    call("learn", s, someOpera(), someRole(c), between(1, 9));
                    break;
                case 4:
                    anything();
                    break;
                case 5:
                case 6:
                case 7:
                    call("harm", s, c, someRole(c));
                    break;
                case 8:
                case 9:
                    call("instead", c, someRole(c));
                    break;
                default:
                    call("may", s, c, someRole(c));
            }
        }
    }

    private void crowds() {
        players(20);
        for (int o = 0; o < 4; o++) {
            opera(1 + below(2), between(2, 6), o, below(2), between(1, 4), 30);
        }
        singers(3);
        call("chorus", between(0, 24), between(0, 60));
        boolean narrow = one(2);
        for (int k = 0; k < 34; k++) {
            int hour = narrow ? some(2, 3, 10, 13, 14) : HOURS[below(HOURS.length)];
            fullCall(below(narrow ? 6 : 4), hour, one(3) ? below(4) : between(2, 3), someOpera(), below(4));
            if (k % 6 == 5) {
                wrongAndTold(3);
            }
        }
        while (goesOn()) {
            switch (below(7)) {
                case 0:
                    contract(someSinger(), limits());
                    break;
                case 1:
                    call("chorus", between(0, 24), between(0, 60));
                    break;
                case 2:
                    call("players", below(4), below(30), below(30));
                    break;
                case 3:
                    call("tired", someSinger(), someCall(), asOf());
                    call("call", some(3, 3, 29), some(10, 14), below(4), someOpera(), 0);
                    break;
                case 4:
                    anything();
                    break;
                default:
                    wrongAndTold(4);
            }
        }
    }

    private void wrongAndTold(int most) {
        int n = Math.max(0, call("wrong", asOf()));
        for (int k = below(most); k >= 0; k--) {
            int which = n == 0 || one(12) ? some(-1, n, n + 1) : below(n);
            call("told", which, 0);
            call("told", which, 1);
            call("told", which, one(20) ? some(-1, 3) : 2);
        }
    }

    private void manyOfAll() {
        int last = below(9);
        for (int o = 0; o < 10; o++) {
            opera(o == last ? 8 : between(1, 4), between(2, 6), below(4), below(2), between(1, 60), 40);
        }
        singers(21);
        for (int k = 0; k < 59; k++) {
            call("call", between(0, 29), below(19), below(4), someOpera(), below(4));
        }
        call("call", between(0, 29), below(19), below(4), last, below(4));
        call("call", 29, 0, 0, 0, 0);
        boolean taught = one(2);
        for (int k = 0; k < 400 && taught && model.lessons.size() < 200; k++) {
            call("learn", someSinger(), below(9), 0, between(1, 99));
        }
        for (int k = 0; k < 100 && model.ills.size() < 60; k++) {
            call("ill", someSinger(), below(15), between(14, 29));
        }
        while (goesOn()) {
            int c = one(3) ? 59 : someCall();
            int r = c == 59 && one(2) ? 7 : someRole(c);
            switch (below(taught ? 14 : 9)) {
                case 0:
                case 1:
                    call("cast", c, r, someSinger(), one(5) ? 1 : 0);
                    break;
                case 2:
                    call("who", c, r, below(2), asOf());
                    break;
                case 3:
                    call("may", someSinger(), c, r);
                    break;
                case 4:
                    call("harm", someSinger(), c, r);
                    break;
                case 5:
                    wrongAndTold(2);
                    break;
                case 6:
                    call("instead", c, r);
                    break;
                case 7:
                case 8:
                    anything();
                    break;
                case 9:
                case 10:
                    call("learned", someSinger(), c, r, asOf());
                    break;
                default:
                    call("learn", someSinger(), someOpera(), 0, between(1, 9));
                    call("ill", someSinger(), 3, 4);
            }
        }
    }

    /** An opera of eight roles laid and kept again and again, until there are just, or nearly, 400 casts. */
    private void manyCasts() {
        int roles = one(2) ? 8 : between(2, 7);
        opera(roles, between(2, 3), 0, 0, between(1, 3), 0);
        opera(between(1, 8), between(2, 3), 0, 0, between(1, 3), 0);
        for (int s = 0; s < 10; s++) {
            call("singer", 3, 3, 5);
            if (one(3)) {
                contract(s, "rest 0;day 3;" + (one(2) ? "leave 6 to " + between(6, 12) + ";" : ""));
            }
        }
        for (int kind = 0; kind < 3; kind++) {
            int c = call("call", kind, 8, kind, 0, 0);
            for (int r = 0; r < roles; r++) {
                call("cast", c, r, r, 0);
            }
        }
        int wanted = 400 - roles * below(4) + some(-1, 0, 0, 0, 1);
        while (goesOn() && model.casts.size() < Math.min(400, wanted)) {
            call("cast", below(3), below(roles), below(10), one(60) ? 0 : 1);
        }
        for (int k = 0; k < 4; k++) {
            call("count", 4);
            lay(5, 29, 20, 0);
            call("laid", 0);
            call("keep");
            call("count", 4);
            for (int r = 0; r < roles; r++) {
                call("who", model.events.size() - 1, r, 0, asOf());
            }
        }
        while (goesOn()) {
            if (one(4)) {
                call("cast", someCall(), below(8), someSinger(), below(2));
            }
            anything();
        }
    }

    private void tapes() {
        while (goesOn()) {
            switch (below(9)) {
                case 0:
                    call("feed", below(1 << 30) - (1 << 29), below(1 << 30) << 2, below(1 << 20), -below(9), below(9));
                    break;
                case 1:
                    call("end", some(-1, 0, model.tape.size() - 1, model.tape.size(), model.tape.size() + 1,
                            below(model.tape.size() + 1)));
                    break;
                case 2:
                    for (int k = between(1, 17); k > 0; k--) {
                        call("feed", below(1 << 30), below(1 << 30), below(1 << 30), below(1 << 30), below(1 << 30));
                    }
                    break;
                case 3:
                    call("count", 6);
                    break;
                case 4:
                    edgyOpera();
                    break;
                case 5:
                    call("singer", below(64), below(64), below(10));
                    break;
                case 6:
                    contract(someSinger(), limits() + feeText());
                    break;
                case 7:
                    if (one(4)) {
                        call("contract", someSinger());
                        call("fault");
                    }
                    break;
                default:
                    anything();
            }
        }
    }

    private void edgyOpera() {
        int roles = some(0, 1, 2, 7, 8, 9);
        int[] bytes = new int[4 + 4 * roles];
        for (int g = 0; g < 4; g++) {
            bytes[g] = some(0, 1, 39, 40);
        }
        for (int r = 0; r < roles; r++) {
            bytes[4 + 4 * r] = some(0, 1, 4, 5);
            bytes[5 + 4 * r] = some(1, 2, 29, 30);
            bytes[6 + 4 * r] = some(0, 1, 4, 5);
            bytes[7 + 4 * r] = some(0, 1, 8, 9);
        }
        if (one(3)) {
            bytes[below(bytes.length)] = some(0, 6, 10, 31, 41, 128, 255);
        }
        if (model.tape.size() > 0 && !one(20)) {
            call("end", 0);
        }
        write(bytes);
        if (one(9)) {
            call("end", some(model.tape.size() - 1, 4, 7, 8));
        }
        call("opera", some(1, 2, 2, 4, 5, 6, 6, 7), some(-1, 0, 0, 1, 2, 3, 3, 4), below(2), some(0, 1, 1, 30, 60, 60, 61));
    }

    private void nights() {
        int operas = one(2) ? 3 : between(1, 2);
        for (int g = 0; g < 4; g++) {
            call("players", g, one(9) ? 0 : 30, one(9) ? 0 : 30);
        }
        for (int o = 0; o < operas; o++) {
            opera(between(1, 2), between(2, 4), below(4), below(2), between(1, 5), 1);
        }
        for (int s = 0; s < 5; s++) {
            call("singer", 3, 3, 5);
            contract(s, "rest " + some(0, 0, 12, 30) + ";week 7;voice 999;" + (one(2) ? feeText() : ""));
        }
        for (int o = 0; o < operas; o++) {
            for (int kind = 0; kind < 3; kind++) {
                int c = call("call", o, 6 + 4 * kind, kind, o, kind == 2 ? 3 : 0);
                for (int r = 0; r < rolesOf(c); r++) {
                    call("cast", c, r, r + o, 0);
                }
            }
        }
        while (goesOn()) {
            int[] wishes = new int[between(1, one(4) ? 6 : 2)];
            for (int k = 0; k < wishes.length; k++) {
                wishes[k] = below(operas);
            }
            int first = Math.min(29, Math.max(model.today, one(2) ? operas + below(3) : below(20)));
            int tries = lay(first, Math.min(29, first + between(1, 12)), between(17, 21), wishes);
            if (one(9)) {
                anything();
            } else if (one(3)) {
                wrongAndTold(1);
            } else if (tries > 0 && one(3)) {
                refused();
            } else if (tries > 0 && one(4)) {
                told();
            }
            boolean isKept = tries > 0 && one(3) && call("keep") >= 0;
            call("laid", below(wishes.length + 1));
            if (isKept) {
                int c = model.events.size() - 1;
                call("who", c, someRole(c), below(2), asOf());
                call("fee", someSinger(), c, asOf());
                call("learned", someSinger(), c, someRole(c), asOf());
                call("tired", someSinger(), c, asOf());
                call("count", some(3, 4));
            }
            if (one(9)) {
                int day = someDay();
                call("ill", someSinger(), day, day);
            }
            if (one(9)) {
                call("next", one(2) ? 1 : 0);
            }
            if (one(9)) {
                call("keep");
                int c = someCall();
                call("cast", c, someRole(c), someSinger(), below(2));
            }
            if (one(9)) {
                contract(0, "week " + some(2, 7, 7) + ";rest 0;voice 999;");
            }
            if (operas == 3 && one(9)) {
                // no night of the last one wished can hold, so that many are tried
                contract(2, "leave 0 to 29;");
                int from = Math.min(15, Math.max(3, model.today));
                lay(from, Math.min(29, from + between(7, 14)), 20, one(2) ? new int[] {0, 0, 2} : new int[] {0, 0, 0, 2});
                contract(2, "rest 0;week 7;voice 999;");
            }
        }
    }

    /** One call that tells something. */
    private void told() {
        int c = model.events.size() - 1;
        switch (below(11)) {
            case 0:
                call("feed", 0, 0, 0, 0, 0);
                break;
            case 1:
                call("end", 0);
                break;
            case 2:
                call("next", 0);
                break;
            case 3:
                call("singer", 1, 1, 1);
                break;
            case 4:
                call("players", 0, 60, 60);
                break;
            case 5:
                call("chorus", 24, 168);
                break;
            case 6:
                call("contract", 4);
                break;
            case 7:
                call("learn", 0, 0, 0, 1);
                break;
            case 8:
                call("call", 29, 0, 0, 0, 0);
                break;
            case 9:
                call("cast", c, 0, 4, 1);
                break;
            default:
                call("ill", 4, 0, 0);
        }
    }

    /** One call that would tell something, but is refused. */
    private void refused() {
        switch (below(12)) {
            case 0:
                call("end", some(-1, 1));
                break;
            case 1:
                call("next", some(-1, 30, 30 - model.today));
                break;
            case 2:
                call("opera", 3, 0, 0, 1);
                break;
            case 3:
                call("singer", some(-1, 64), 1, 1);
                break;
            case 4:
                call("players", some(-1, 4), 1, 1);
                break;
            case 5:
                call("chorus", 24, some(-1, 169));
                break;
            case 6:
                call("contract", some(-1, 20));
                break;
            case 7:
                call("learn", 0, 0, 0, some(0, 100));
                break;
            case 8:
                call("call", some(-1, 30), 0, 0, 0, 0);
                break;
            case 9:
                call("cast", someCall(), 0, some(-2, 20), 0);
                break;
            case 10:
                call("ill", 0, 1, some(0, 30));
                break;
            default:
                call("fault");
        }
    }

    private int lay(int first, int last, int hour, int... wishes) {
        if (model.tape.size() > 0) {
            call("end", 0);
        }
        write(wishes);
        return call("lay", first, last, hour);
    }

    /** Contracts at the bounds of what a text may be. */
    private void texts() {
        singers(2);
        opera(1, 2, 0, 0, 1, 0);
        for (int k = 0; k < 4; k++) {
            fullCall(0, 4 * k, k, 0, 0);
        }
        while (goesOn()) {
            String text;
            switch (below(10)) {
                case 0:
                    text = feesAndLeaves();
                    break;
                case 1:
                    text = "fee 1 if " + ones(some(39, 40, 40, 41, 42)) + ";";
                    break;
                case 2:
                    text = "fee 3 if " + someText("", "late and ", "room or ") + times(someText("not ", "(", "not ("), some(5, 6, 10, 11, 12))
                            + "room" + times(")", some(0, 5, 6, 10, 11, 12)) + ";";
                    break;
                case 3:
                    text = near300();
                    break;
                case 4:
                    text = someText("", "", "rest", "rest 5", "fee 7 if late", "fee") + (char) some('/', '0', '9', ':', '`', 'a', 'z', '{', '(', ';', '<', '>', '?', 31, 32, 33, 10, 9, 11)
                            + someText("", " 1;", "rest 3;");
                    break;
                case 5:
                    text = limits() + someText("rest", "day", "week", "voice") + " " + some(-1, 0, 1, 7, 8, 24, 25, 72, 73, 999, 1000) + ";";
                    break;
                case 6:
                case 7:
                    text = anyTokens();
                    break;
                case 8:
                    cutText();
                    text = "";
                    break;
                default:
                    text = feeText();
            }
            if (!text.isEmpty()) {
                contract(one(30) ? some(-1, 2) : below(2), text);
            }
            call("fault");
            call("fee", below(2), below(4), 0);
            call("pay", below(2), 0, 0);
            if (one(12)) {
                anything();
            }
        }
    }

    private String anyTokens() {
        String[] all = {"or", "and", "not", "(", ")", "late", "full", "night", "hours", "nth", "over", "<", "=", ">", "3", ";", "if"};
        StringBuilder b = new StringBuilder("fee 1 if ");
        for (int k = between(1, 9); k > 0; k--) {
            b.append(someText(all)).append(one(2) ? " " : "\n");
        }
        return b.append(someText(";", " late;", "")).toString();
    }

    /** A text of which the end is cut off by end(), so that old bytes stand behind the tape. */
    private void cutText() {
        write(limits() + "fee 5 if " + someText("late;  \n  ", "nth=12345;", "full or late;", "   \n  "));
        call("end", Math.max(0, model.tape.size() - between(1, 9)));
        call("contract", below(2));
    }

    /** So many ONES, most of them within brackets, as a text of 300 bytes could not hold 40 words. */
    private String ones(int many) {
        StringBuilder b = new StringBuilder();
        for (int left = many; left > 0;) {
            int group = Math.min(left, between(5, 12));
            b.append(b.length() == 0 ? "" : someText("or", "and")).append(times("(", group - 1));
            b.append(b.charAt(b.length() - 1) == '(' ? "" : " ").append(someText("late", "full", "room"));
            b.append(group == 1 ? " " : times(")", group - 1));
            left -= group;
        }
        return b.toString();
    }

    private String feesAndLeaves() {
        StringBuilder b = new StringBuilder(one(3) ? limits() : "");
        for (int k = some(6, 7, 8, 9); k > 0; k--) {
            b.append("fee ").append(one(60) ? 100000 : some(0, 1, 99999, 12345)).append(";");
        }
        for (int k = some(0, 4, 5, 6, 7); k > 0; k--) {
            int from = some(0, 0, 1, 28, 29, 29);
            b.append("leave ").append(from).append(" to ").append(one(40) ? from - 1 : some(from, 29)).append(';');
        }
        return b.append(one(3) ? limits() : "").toString();
    }

    /** A text whose last token stands about byte 300. */
    private String near300() {
        String end = someText(";", "fee 7;", "rest 5;", "fee 12345", "late", "fee 1 if hours<123;");
        int length = some(298, 299, 300, 301, 301, 301, 302, 305, 306, 307);
        return "fee 9;" + times(" ", length - 6 - end.length()) + end + times(someText(" ", ";", "\n"), some(0, 0, 1, 2, 3));
    }

    private static String times(String text, int n) {
        StringBuilder b = new StringBuilder();
        for (int k = 0; k < n; k++) {
            b.append(text);
        }
        return b.toString();
    }

    private String someText(String... texts) {
        return texts[below(texts.length)];
    }

    private void days() {
        for (int o = 0; o < 2; o++) {
            opera(2, between(2, 4), o, 1, between(1, 9), 2);
        }
        singers(5);
        for (int s = 0; s < 5; s++) {
            contract(s, limits() + feeText());
        }
        for (int k = 0; k < 16; k++) {
            call("call", between(0, 29), HOURS[below(HOURS.length)], below(4), someOpera(), below(4));
        }
        for (int k = 0; goesOn(); k++) {
            int c = someCall();
            if (k % 12 == 11) {
                call("next", one(4) ? 0 : one(3) ? 2 : 1);
            }
            switch (below(11)) {
                case 0:
                case 1:
                    call("cast", c, someRole(c), one(9) ? -1 : someSinger(), one(3) ? 1 : 0);
                    break;
                case 2:
                    call("learn", someSinger(), someOpera(), someRole(c), between(1, 5));
                    break;
                case 3:
                    call("ill", someSinger(), between(0, 29), between(0, 29));
                    break;
                case 4:
                    call("who", c, someRole(c), below(2), asOf());
                    break;
                case 5:
                    call("learned", someSinger(), c, someRole(c), asOf());
                    break;
                case 6:
                    call("tired", someSinger(), c, asOf());
                    break;
                case 7:
                    call("fee", someSinger(), c, asOf());
                    break;
                case 8:
                    call("pay", someSinger(), below(30), asOf());
                    break;
                case 9:
                    wrongAndTold(1);
                    break;
                default:
                    anything();
            }
        }
    }

    /** All numbers at, next to and between their bounds. */
    private void edges() {
        for (int o = 0; o < 2; o++) {
            opera(between(1, 8), between(2, 6), o, 1, between(1, 60), 40);
        }
        singers(3);
        for (int k = 0; k < 5; k++) {
            fullCall(some(0, 1, 28, 29), 10, k % 4, 0, k % 4);
        }
        while (goesOn()) {
            int day = model.today;
            int c = edge(0, model.events.size() - 1);
            int s = edge(0, model.singers.size() - 1);
            int o = edge(0, model.operas.size() - 1);
            int r = edge(0, rolesOf(c) - 1);
            switch (below(24)) {
                case 0:
                    call("next", one(25) ? 29 - day : some(-1, 0, 0, 1, 30 - day, 30, Integer.MAX_VALUE, Integer.MIN_VALUE));
                    break;
                case 1:
                    call("singer", edge(0, 63), edge(0, 63), edge(0, 9));
                    break;
                case 2:
                    call("players", edge(0, 3), edge(0, 60), edge(0, 60));
                    break;
                case 3:
                    call("chorus", edge(0, 24), edge(0, 168));
                    break;
                case 4:
                    call("learn", s, o, r, edge(1, 99));
                    break;
                case 5:
                case 6:
                    call("call", edge(day, 29), edge(0, 22), edge(0, 3), o, edge(0, 3));
                    break;
                case 7:
                    call("cast", c, r, some(s, -1), below(2));
                    break;
                case 8:
                    call("ill", s, edge(0, 29), edge(0, 29));
                    break;
                case 9:
                    call("who", c, r, below(2), edge(0, day));
                    break;
                case 10:
                    wrongAndTold(1);
                    break;
                case 11:
                    call("learned", s, c, r, edge(0, day));
                    break;
                case 12:
                    call("tired", s, c, edge(0, day));
                    break;
                case 13:
                    call("fee", s, c, edge(0, day));
                    break;
                case 14:
                    call("pay", s, edge(0, 29), edge(0, day));
                    break;
                case 15:
                    call("moves", edge(0, 3), edge(0, one(2) ? 3 : 40));
                    break;
                case 16:
                    call("may", s, c, r);
                    break;
                case 17:
                    call("harm", s, c, r);
                    break;
                case 18:
                    call("instead", c, r);
                    break;
                case 19:
                    lay(edge(day, 29), edge(day, 29), edge(0, 22), one(9) ? new int[edge(1, 6)] : new int[] {Math.max(0, o)});
                    break;
                case 20:
                    call("laid", edge(0, 0));
                    break;
                case 21:
                    call("keep");
                    break;
                case 22:
                    call("count", edge(0, 6));
                    break;
                default:
                    edgyOpera();
            }
        }
    }

    private int edge(int low, int high) {
        return one(20) ? some(low - 1, high + 1) : one(2) ? some(low, high) : between(low, Math.max(low, high));
    }

    /** Any call at all, mostly with numbers that are as told. */
    private void anything() {
        int c = someCall();
        int s = someSinger();
        switch (below(26)) {
            case 0:
                call("feed", below(256) << 24, 0, below(99), 0, 0);
                break;
            case 1:
                call("end", below(model.tape.size() + 2));
                break;
            case 2:
                call("next", one(6) ? 1 : 0);
                break;
            case 3:
                opera(between(1, 3), between(2, 6), below(4), below(2), between(1, 9), 9);
                break;
            case 4:
                call("singer", below(64), below(64), below(10));
                break;
            case 5:
                call("players", below(4), below(61), below(61));
                break;
            case 6:
                call("chorus", below(25), below(169));
                break;
            case 7:
                contract(s, one(2) ? feeText() : limits());
                break;
            case 8:
                call("fault");
                break;
            case 9:
                call("learn", s, someOpera(), someRole(c), between(1, 9));
                break;
            case 10:
                call("call", someDay(), HOURS[below(HOURS.length)], below(4), someOpera(), below(4));
                break;
            case 11:
                call("cast", c, someRole(c), s, below(2));
                break;
            case 12:
                call("ill", s, someDay(), someDay());
                break;
            case 13:
                call("who", c, someRole(c), below(2), asOf());
                break;
            case 14:
                wrongAndTold(1);
                break;
            case 15:
                call("learned", s, c, someRole(c), asOf());
                break;
            case 16:
                call("tired", s, c, asOf());
                break;
            case 17:
                call("fee", s, c, asOf());
                break;
            case 18:
                call("pay", s, someDay(), asOf());
                break;
            case 19:
                call("moves", below(4), one(2) ? below(5) : below(41));
                break;
            case 20:
                call("may", s, c, someRole(c));
                break;
            case 21:
                call("harm", s, c, someRole(c));
                break;
            case 22:
                call("instead", c, someRole(c));
                break;
            case 23:
                lay(someDay(), someDay(), between(15, 21), someOpera() & 255);
                break;
            case 24:
                call("laid", below(7));
                call("keep");
                break;
            default:
                call("count", between(0, 6));
        }
    }
}
