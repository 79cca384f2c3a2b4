/** Runs of calls by a written-out number row, each answer held against Model's. */
public final class RandomRuns extends Both {
    private int maxRoles;
    private static final int[] kindsSeen = new int[16];
    private static final int[] faultsSeen = new int[5];
    private static int laidWell, givenUp, noWay, kept, mays, steads;

    public static void main(String[] args) {
        int runs = args.length > 0 ? Integer.parseInt(args[0]) : 60;
        int from = args.length > 1 ? Integer.parseInt(args[1]) : 0;
        int failed = 0;
        for (int run = from; run < from + runs; run++) {
            RandomRuns r = new RandomRuns(run * 7919L + 12345);
            r.run(run);
            if (!r.good) {
                failed++;
            }
            if (failed > 3) {
                break;
            }
        }
        StringBuilder seen = new StringBuilder("kinds seen:");
        for (int k = 1; k < 16; k++) {
            seen.append(' ').append(kindsSeen[k]);
        }
        seen.append("; faults seen:");
        for (int k = 0; k < 5; k++) {
            seen.append(' ').append(faultsSeen[k]);
        }
        seen.append("; laid " + laidWell + ", no way " + noWay + ", given up " + givenUp + ", kept " + kept
                + ", may " + mays + ", instead " + steads);
        System.out.println(seen);
        System.out.println(failed == 0 ? "all answers are as the model's" : failed + " runs differ");
        if (failed > 0) {
            System.exit(1);
        }
    }

    private RandomRuns(long seed) {
        super(seed);
    }

    private void run(int number) {
        boolean tame = number % 3 != 0;
        maxRoles = number % 4 == 1 ? 1 : number % 4 == 2 ? 2 : 4;
        if (number % 17 == 3) {
            texts();
            return;
        }
        if (number % 5 == 4) {
            festival();
            return;
        }
        setUp(tame);
        if (number % 2 == 0) {
            season(tame);
        }
        int weight = number % 5;
        for (int k = 0; k < MOST_CALLS && good && calls < MOST_CALLS; k++) {
            step(tame, weight);
        }
    }

    private void setUp(boolean tame) {
        int operas = tame ? between(1, 4) : between(1, 9);
        for (int k = 0; k < operas; k++) {
            addOpera(tame);
        }
        int singers = tame ? between(2, 6) : between(1, 20);
        for (int k = 0; k < singers; k++) {
            addSinger(tame);
        }
        for (int g = 0; g < 4; g++) {
            int most = tame ? 60 : 20;
            ask("players", g, between(tame ? 20 : 0, most), between(tame ? 20 : 0, most));
        }
        if (one(2)) {
            ask("chorus", between(4, 24), between(10, 60));
        }
    }

    private void addOpera(boolean tame) {
        int roles = between(1, maxRoles);
        int[] bytes = new int[4 + 4 * roles];
        for (int g = 0; g < 4; g++) {
            bytes[g] = tame ? below(20) : below(42);
        }
        for (int r = 0; r < roles; r++) {
            bytes[4 + 4 * r] = tame ? below(2) : below(6);
            bytes[5 + 4 * r] = between(1, tame ? 20 : 30);
            bytes[6 + 4 * r] = tame ? below(2) : below(6);
            bytes[7 + 4 * r] = tame ? between(4, 6) : below(10);
        }
        if (one(15)) {
            bytes[below(bytes.length)] = below(60);
        }
        write(bytes);
        if (one(20)) {
            ask("end", below(10));
        }
        ask("opera", between(2, 6) + (one(30) ? 4 : 0), below(4) + (one(30) ? 1 : 0), below(2),
                tame ? between(1, 6) : between(one(10) ? 0 : 1, one(5) ? 61 : 12));
    }

    private void addSinger(boolean tame) {
        ask("singer", tame ? 3 + below(4) : below(64), tame ? 3 + below(4) : below(64), tame ? 5 : below(10));
        if (one(2)) {
            write(text(tame));
            ask("contract", model.singers.size() - 1);
            faultsSeen[Math.max(0, ask("fault"))]++;
        }
    }

    // ---- texts ----

    private void texts() {
        ask("singer", 63, 63, 5);
        while (good && calls < MOST_CALLS - 12) {
            write(text(false));
            int answer = ask("contract", one(20) ? between(-1, 2) : 0);
            int kind = ask("fault");
            if (answer != -1000 && kind >= 0) {
                faultsSeen[kind]++;
            }
            if (one(10)) {
                ask("count", 6);
            }
        }
    }

    private String text(boolean tame) {
        StringBuilder b = new StringBuilder();
        int rules = one(6) ? between(8, 22) : below(7);
        boolean[] told = new boolean[4];
        int leaves = 0;
        for (int k = 0; k < rules; k++) {
            int which = below(10);
            if (which < 4) {
                if (told[which] && !one(12)) {
                    continue;
                }
                told[which] = true;
                int over = one(30) ? 1 : 0;
                b.append(Model.LIMIT_WORDS[which]).append(blank(1))
                        .append(between(Model.LIMIT_LOW[which] - (over > 0 ? 1 : 0), which == 3 && tame ? 120
                                : Model.LIMIT_HIGH[which] + over));
            } else if (which < 6) {
                leaves++;
                if (leaves > 6 && !one(6)) {
                    continue;
                }
                int from = between(0, 29);
                b.append("leave ").append(from).append(blank(1)).append("to").append(blank(1))
                        .append(one(25) ? below(32) : between(from, Math.min(29, from + 3)));
            } else if (one(25)) {
                b.append("fee 1 if room");
                for (int n = between(10, 41); n > 0; n--) {
                    b.append(one(2) ? " or late" : " and full");
                }
            } else {
                b.append("fee ").append(one(20) ? below(200000) : below(3000));
                if (!one(4)) {
                    b.append(blank(1)).append("if ");
                    if (one(12)) {
                        nest(b);
                    }
                    cond(b, one(9) ? 9 : 3);
                }
            }
            b.append(blank(0)).append(';').append(blank(0));
        }
        if (one(tame ? 12 : 3)) {
            spoil(b);
        }
        while (b.length() > 330) {
            b.deleteCharAt(below(b.length()));
        }
        if (one(12)) {
            while (b.length() < 290) {
                b.insert(below(b.length() + 1), ' ');
            }
            for (int k = below(30); k > 0; k--) {
                b.insert(below(b.length() + 1), ' ');
            }
        }
        return b.toString();
    }

    private String blank(int least) {
        int many = one(8) ? below(3) : least;
        StringBuilder b = new StringBuilder();
        for (int k = 0; k < Math.max(least, many); k++) {
            b.append(one(5) ? '\n' : ' ');
        }
        return b.toString();
    }

    private void nest(StringBuilder b) {
        for (int k = between(9, 13); k > 0; k--) {
            b.append("not ");
        }
    }

    private void cond(StringBuilder b, int left) {
        all(b, left);
        while (one(4)) {
            b.append(" or ");
            all(b, left);
        }
    }

    private void all(StringBuilder b, int left) {
        oneOf(b, left);
        while (one(4)) {
            b.append(" and ");
            oneOf(b, left);
        }
    }

    private void oneOf(StringBuilder b, int left) {
        String[] plain = {"room", "marks", "full", "night", "late", "cover", "instead"};
        String[] counted = {"hours", "nth", "over"};
        int which = below(left > 0 ? 8 : 5);
        if (which < 3) {
            b.append(plain[below(7)]);
        } else if (which < 5) {
            b.append(counted[below(3)]).append(blank(0)).append("<=>".charAt(below(3))).append(below(7));
        } else if (which == 5) {
            b.append("not ");
            oneOf(b, left - 1);
        } else {
            b.append('(');
            cond(b, left - 1);
            b.append(")");
        }
    }

    private void spoil(StringBuilder b) {
        String signs = "abz059;()<=> \n!AZ{`/:";
        for (int k = between(1, 2); k > 0 && b.length() > 0; k--) {
            int at = below(b.length());
            switch (below(4)) {
                case 0:
                    b.deleteCharAt(at);
                    break;
                case 1:
                    b.setCharAt(at, signs.charAt(below(signs.length())));
                    break;
                case 2:
                    b.insert(at, signs.charAt(below(signs.length())));
                    break;
                default:
                    b.setLength(at);
            }
        }
    }

    // ---- calls ----

    /** Rehearsals of an opera one behind the other, so that nights can hold. */
    private void season(boolean tame) {
        int day = 0;
        for (int o = 0; o < model.operas.size() && calls < 300; o++) {
            int[] made = new int[3];
            for (int kind = 0; kind < 3; kind++) {
                int hour = between(8, 14);
                made[kind] = ask("call", day, hour, kind, o, kind == 2 ? 3 : 0);
                day += one(2) ? 1 : 0;
                day = Math.min(day, 29);
            }
            for (int r = 0; r < model.operas.get(o).roles.size(); r++) {
                int s = below(Math.max(1, model.singers.size()));
                for (int kind = 0; kind < 3; kind++) {
                    ask("cast", made[kind], r, s, 0);
                }
                if (one(2)) {
                    ask("learn", s, o, r, between(1, 10));
                }
            }
        }
    }

    /** Few operas well rehearsed, and NIGHTS laid again and again as things change. */
    private void festival() {
        maxRoles = between(1, 3);
        int operas = between(1, 4);
        for (int g = 0; g < 4; g++) {
            ask("players", g, 20, 20);
        }
        for (int o = 0; o < operas; o++) {
            int[] bytes = new int[4 + 4 * maxRoles];
            for (int r = 0; r < maxRoles; r++) {
                bytes[5 + 4 * r] = between(1, 30);
                bytes[7 + 4 * r] = 5;
            }
            write(bytes);
            ask("opera", between(2, 4), one(2) ? 0 : below(4), below(2), between(1, 7));
        }
        for (int s = 0; s < maxRoles + 2; s++) {
            ask("singer", 1, 1, between(4, 6));
        }
        boolean shared = one(2);
        int day = 0;
        for (int o = 0; o < operas; o++) {
            for (int kind = 0; kind < 3; kind++) {
                int c = ask("call", day, 8 + 3 * kind, kind, o, kind == 2 ? 3 : 0);
                for (int r = 0; r < maxRoles && c >= 0; r++) {
                    ask("cast", c, r, r + (shared ? 0 : o % 3), 0);
                }
            }
            day += one(4) ? 0 : 1;
        }
        while (good && calls < MOST_CALLS) {
            changeAndLay(operas);
        }
    }

    private void changeAndLay(int operas) {
        int s = someSinger();
        switch (below(7)) {
            case 0:
                ask("ill", s, someDay(), between(model.today, 29));
                break;
            case 1:
                write(one(2) ? "rest " + between(0, 72) + ";" : "week " + below(4) + ";day " + between(1, 4) + ";");
                ask("contract", s);
                break;
            case 2:
                write("voice " + between(10, 90) + "; leave " + between(0, 12) + " to " + between(12, 29) + ";");
                ask("contract", s);
                break;
            case 3:
                write("rest 0;voice 999;week 7;");
                ask("contract", s);
                break;
            case 4:
                ask("chorus", between(2, 24), between(6, 40));
                break;
            case 5:
                ask("call", someDay(), between(8, 19), below(4), someOpera(), below(4));
                ask("cast", model.events.size() - 1, 0, s, 0);
                break;
            default:
                ask("next", one(3) ? 1 : 0);
        }
        boolean hard = one(6);
        if (hard) {
            write("week 2;");
            ask("contract", 0);
        }
        int[] wishes = new int[hard ? 6 : between(1, 6)];
        for (int k = 0; k < wishes.length; k++) {
            wishes[k] = below(operas);
        }
        ask("end", 0);
        write(wishes);
        int first = Math.min(29, model.today + between(0, 6));
        int tries = ask("lay", first, Math.min(29, first + (hard ? 14 : between(2, 20))),
                between(17, 20));
        laidWell += tries > 0 ? 1 : 0;
        noWay += tries == 0 ? 1 : 0;
        givenUp += tries == -2 ? 1 : 0;
        for (int k = 0; k < wishes.length; k++) {
            ask("laid", k);
        }
        if (one(4)) {
            ask("cast", 0, 0, 25, 0);
            kept += ask("keep") >= 0 ? 1 : 0;
        }
        if (one(3)) {
            wrongAndTold();
            ask("tired", s, someCall(), someT());
            ask("pay", s, someDay(), someT());
            int c = someCall();
            ask("may", s, c, 0);
            ask("instead", c, 0);
        }
    }

    private int someDay() {
        return one(25) ? between(-2, 32) : between(model.today, Math.min(29, model.today + 8));
    }

    private int someT() {
        return one(12) ? between(-2, 40) : between(Math.max(0, model.today - 4), model.today);
    }

    private int someCall() {
        int n = model.events.size();
        return one(30) || n == 0 ? between(-1, n + 1) : below(n);
    }

    private int someSinger() {
        int n = model.singers.size();
        return one(30) || n == 0 ? between(-2, n) : below(n);
    }

    private int someOpera() {
        int n = model.operas.size();
        return one(30) || n == 0 ? between(-1, n) : below(n);
    }

    private int someRole(int c) {
        int n = model.isCall(c) ? model.workOf(model.events.get(c)).roles.size() : 1;
        return one(30) ? between(-1, 8) : below(n);
    }

    private void step(boolean tame, int weight) {
        int which = below(100);
        int c = someCall();
        int s = someSinger();
        if (which < 12) {
            ask("call", someDay(), one(20) ? between(-1, 24) : between(9, 20), one(40) ? between(-1, 5) : below(4),
                    someOpera(), one(40) ? between(-1, 5) : below(4));
        } else if (which < 30) {
            ask("cast", c, someRole(c), one(8) ? -1 : s, one(5) ? 1 : 0);
        } else if (which < 33) {
            int from = someDay();
            ask("ill", s, from, Math.min(30, from + below(4) - (one(9) ? 2 : 0)));
        } else if (which < 36) {
            ask("learn", s, someOpera(), one(9) ? between(-1, 8) : below(maxRoles), one(9) ? between(-1, 101) : between(1, 9));
        } else if (which < 40) {
            ask("who", c, someRole(c), below(2), someT());
        } else if (which < 48) {
            wrongAndTold();
        } else if (which < 52) {
            ask("learned", s, c, someRole(c), someT());
        } else if (which < 56) {
            ask("tired", s, c, someT());
        } else if (which < 61) {
            ask("fee", s, c, someT());
        } else if (which < 63) {
            ask("pay", s, one(9) ? between(-1, 31) : someDay(), someT());
        } else if (which < 65) {
            ask("moves", between(-1, 4), one(3) ? between(-1, 41) : below(6));
        } else if (which < 71) {
            mays += ask("may", s, c, someRole(c)) == 1 ? 1 : 0;
        } else if (which < 75) {
            ask("harm", s, c, someRole(c));
        } else if (which < 78) {
            steads += ask("instead", c, someRole(c)) >= 0 ? 1 : 0;
        } else if (which < 84 && weight < 3) {
            layAndKeep();
        } else if (which < 86) {
            ask("laid", between(-1, 6));
        } else if (which < 87) {
            kept += ask("keep") >= 0 ? 1 : 0;
        } else if (which < 90) {
            ask("count", between(-1, 7));
        } else if (which < 91) {
            ask("next", one(6) ? between(-1, 31) : weight == 0 ? 0 : below(3));
        } else if (which < 92) {
            ask("players", between(-1, 4), between(-1, 61), between(-1, 61));
        } else if (which < 93) {
            ask("chorus", between(-1, 25), between(-1, 169));
        } else if (which < 94) {
            addSinger(tame);
        } else if (which < 95) {
            addOpera(tame);
        } else if (which < 97) {
            write(text(tame));
            ask("contract", s);
            int kind = ask("fault");
            faultsSeen[Math.max(0, kind)]++;
        } else if (which < 98) {
            ask("feed", below(1 << 30) * 3, below(1 << 30), -below(1 << 30), below(9), below(9));
        } else {
            ask("end", between(-1, one(2) ? 4 : model.tape.size() + 1));
        }
    }

    private void wrongAndTold() {
        int n = Math.max(0, ask("wrong", someT()));
        for (int[] x : model.wrongs) {
            kindsSeen[x[0]]++;
        }
        int from = below(n + 1);
        for (int k = from; k < Math.min(n, from + 4); k++) {
            ask("told", k, 0);
            ask("told", k, 1);
            ask("told", k, 2);
        }
        if (one(4)) {
            ask("told", between(-1, n + 1), between(-1, 3));
        }
    }

    private void layAndKeep() {
        int[] wishes = new int[one(20) ? below(9) : between(1, 3 + below(4))];
        for (int k = 0; k < wishes.length; k++) {
            wishes[k] = Math.max(0, someOpera());
        }
        if (model.tape.size() > 0) {
            ask("end", 0);
        }
        write(wishes);
        int first = someDay();
        int tries = ask("lay", first, one(20) ? below(32) : Math.min(29, first + between(1, 14)), between(17, 21));
        laidWell += tries > 0 ? 1 : 0;
        noWay += tries == 0 ? 1 : 0;
        givenUp += tries == -2 ? 1 : 0;
        ask("laid", 0);
        ask("laid", below(6));
        if (one(3)) {
            ask("end", one(2) ? 0 : 1);
        }
        if (one(2)) {
            ask("wrong", someT());
            kept += ask("keep") >= 0 ? 1 : 0;
            ask("keep");
        }
    }
}
