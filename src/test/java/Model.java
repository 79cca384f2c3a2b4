import java.util.ArrayList;
import java.util.HashMap;
import java.util.HashSet;
import java.util.List;
import java.util.Map;
import java.util.NoSuchElementException;
import java.util.Set;
import java.util.TreeSet;

/** The document a second time, as literally and slowly as it goes; RandomRuns holds the class against it. */
final class Model {
    static final int NONE = -1;
    static final String[] LIMIT_WORDS = {"rest", "day", "week", "voice"};
    static final int[] LIMIT_LOW = {0, 1, 0, 1};
    static final int[] LIMIT_HIGH = {72, 24, 7, 999};

    static final class Work {
        int hours, set, need;
        boolean chorus;
        int[] seats = new int[4];
        List<int[]> roles = new ArrayList<>();
    }

    static final class Person {
        int voices, tongues, size;
        Paper paper = new Paper();
    }

    static final class Event {
        int number, opera, day, hour, kind, halves, length;

        int begin() {
            return day * 24 + hour;
        }

        int end() {
            return begin() + length;
        }
    }

    static final class Paper {
        int[] limits = {12, 8, 4, 100};
        List<int[]> leaves = new ArrayList<>();
        List<Integer> sums = new ArrayList<>();
        List<Node> conds = new ArrayList<>();
        int rules;
    }

    static final class Node {
        String word;
        Node left, right;
        char sign;
        int number;
    }

    static final class Fault extends RuntimeException {
        final int kind, place;

        Fault(int kind, int place) {
            this.kind = kind;
            this.place = place;
        }
    }

    static final class Piece {
        String text;
        int place;
        boolean good = true;
    }

    List<Integer> tape = new ArrayList<>();
    int today;
    List<Work> operas = new ArrayList<>();
    List<Person> singers = new ArrayList<>();
    List<Event> events = new ArrayList<>();
    int[][] players = new int[4][2];
    int daily = 24, weekly = 168;
    /** call, role, singer, cover, day told. */
    List<int[]> casts = new ArrayList<>();
    /** The same ones, those of a role in a call (and its covers) for themselves. */
    private Map<Integer, List<int[]>> castsOf = new HashMap<>();
    /** singer, from, to, day told. */
    List<int[]> ills = new ArrayList<>();
    /** singer, opera, role, hours, day told. */
    List<int[]> lessons = new ArrayList<>();
    int fault;
    List<int[]> wrongs = new ArrayList<>();
    List<Integer> wishes = new ArrayList<>();
    int[] nights;
    int nightHour;
    boolean toldSince = true;

    int feed(int a, int b, int c, int d, int e) {
        if (tape.size() + 20 > 340) {
            return NONE;
        }
        for (int n : new int[] {a, b, c, d, e}) {
            tape.add(n >>> 24);
            tape.add(n >>> 16 & 255);
            tape.add(n >>> 8 & 255);
            tape.add(n & 255);
        }
        toldSince = true;
        return tape.size();
    }

    boolean end(int n) {
        if (n < 0 || n > tape.size()) {
            return false;
        }
        tape = new ArrayList<>(tape.subList(0, n));
        toldSince = true;
        return true;
    }

    int next(int n) {
        if (n < 0 || n > 29 || today + n > 29) {
            return NONE;
        }
        today += n;
        toldSince = true;
        return today;
    }

    int opera(int hours, int set, boolean chorus, int need) {
        List<Integer> bytes = tape;
        tape = new ArrayList<>();
        if (operas.size() == 9 || hours < 2 || hours > 6 || set < 0 || set > 3 || need < 1 || need > 60) {
            return NONE;
        }
        Work w = new Work();
        if (bytes.size() < 8 || bytes.size() > 36 || bytes.size() % 4 != 0) {
            return NONE;
        }
        for (int g = 0; g < 4; g++) {
            w.seats[g] = bytes.get(g);
            if (w.seats[g] > 40) {
                return NONE;
            }
        }
        for (int at = 4; at < bytes.size(); at += 4) {
            int[] role = {bytes.get(at), bytes.get(at + 1), bytes.get(at + 2), bytes.get(at + 3)};
            if (role[0] > 5 || role[1] < 1 || role[1] > 30 || role[2] > 5 || role[3] > 9) {
                return NONE;
            }
            w.roles.add(role);
        }
        w.hours = hours;
        w.set = set;
        w.chorus = chorus;
        w.need = need;
        operas.add(w);
        toldSince = true;
        return operas.size() - 1;
    }

    int singer(int voices, int tongues, int size) {
        if (singers.size() == 20 || voices < 0 || voices > 63 || tongues < 0 || tongues > 63 || size < 0 || size > 9) {
            return NONE;
        }
        Person p = new Person();
        p.voices = voices;
        p.tongues = tongues;
        p.size = size;
        singers.add(p);
        toldSince = true;
        return singers.size() - 1;
    }

    boolean players(int g, int one, int other) {
        if (g < 0 || g > 3 || one < 0 || one > 60 || other < 0 || other > 60) {
            return false;
        }
        players[g] = new int[] {one, other};
        toldSince = true;
        return true;
    }

    boolean chorus(int daily, int weekly) {
        if (daily < 0 || daily > 24 || weekly < 0 || weekly > 168) {
            return false;
        }
        this.daily = daily;
        this.weekly = weekly;
        toldSince = true;
        return true;
    }

    // ---- the text of a contract: first all its pieces, then the rules ----

    private static boolean small(int b) {
        return b >= 'a' && b <= 'z';
    }

    private static boolean digit(int b) {
        return b >= '0' && b <= '9';
    }

    static List<Piece> pieces(List<Integer> bytes) {
        List<Piece> all = new ArrayList<>();
        int at = 0;
        while (true) {
            while (at < bytes.size() && (bytes.get(at) == 32 || bytes.get(at) == 10)) {
                at++;
            }
            Piece p = new Piece();
            p.place = at;
            all.add(p);
            if (bytes.size() > 300 && at >= 300) {
                p.place = 300;
                p.text = "?";
                p.good = false;
                return all;
            }
            if (at == bytes.size()) {
                p.text = "";
                return all;
            }
            StringBuilder text = new StringBuilder();
            text.append((char) (int) bytes.get(at++));
            if (small(text.charAt(0)) || digit(text.charAt(0))) {
                while (at < bytes.size() && (small(bytes.get(at)) || digit(bytes.get(at)))) {
                    text.append((char) (int) bytes.get(at++));
                }
                p.good = text.toString().matches("[a-z]{1,8}|[0-9]{1,5}");
            } else {
                p.good = text.toString().matches("[;()<=>]");
            }
            p.text = text.toString();
        }
    }

    static final class Parser {
        final List<Piece> pieces;
        int at;
        int ones;
        Paper paper = new Paper();
        Set<String> told = new HashSet<>();

        Parser(List<Piece> pieces) {
            this.pieces = pieces;
        }

        Piece here() {
            return pieces.get(at);
        }

        boolean is(String text) {
            return here().good && here().text.equals(text);
        }

        Fault fault(int kind) {
            return new Fault(kind, here().place);
        }

        void must(String text) {
            if (!is(text)) {
                throw fault(1);
            }
            at++;
        }

        int number(int low, int high) {
            if (!here().good || !here().text.matches("[0-9]+")) {
                throw fault(1);
            }
            int n = Integer.parseInt(here().text);
            if (n < low || n > high) {
                throw fault(2);
            }
            at++;
            return n;
        }

        void rules() {
            while (!is("")) {
                rule();
                paper.rules++;
            }
        }

        void rule() {
            for (int k = 0; k < 4; k++) {
                if (is(LIMIT_WORDS[k])) {
                    if (!told.add(LIMIT_WORDS[k])) {
                        throw fault(3);
                    }
                    at++;
                    paper.limits[k] = number(LIMIT_LOW[k], LIMIT_HIGH[k]);
                    must(";");
                    return;
                }
            }
            if (is("leave")) {
                if (paper.leaves.size() == 6) {
                    throw fault(3);
                }
                at++;
                int from = number(0, 29);
                must("to");
                int to = number(from, 29);
                must(";");
                paper.leaves.add(new int[] {from, to});
            } else if (is("fee")) {
                if (paper.sums.size() == 8) {
                    throw fault(3);
                }
                at++;
                paper.sums.add(number(0, 99999));
                Node cond = null;
                if (is("if")) {
                    at++;
                    cond = cond(1);
                }
                paper.conds.add(cond);
                must(";");
            } else {
                throw fault(1);
            }
        }

        Node join(String word, Node left, Node right) {
            Node n = new Node();
            n.word = word;
            n.left = left;
            n.right = right;
            return n;
        }

        Node cond(int within) {
            Node left = all(within);
            while (is("or")) {
                at++;
                left = join("or", left, all(within));
            }
            return left;
        }

        Node all(int within) {
            Node left = one(within);
            while (is("and")) {
                at++;
                left = join("and", left, one(within));
            }
            return left;
        }

        Node one(int within) {
            boolean begins = here().good && here().text.matches(
                    "not|\\(|room|marks|full|night|late|cover|instead|hours|nth|over");
            if (!begins) {
                throw fault(1);
            }
            ones++;
            if (ones > 40 || within > 12) {
                throw fault(4);
            }
            String word = here().text;
            at++;
            if (word.equals("not")) {
                return join("not", one(within + 1), null);
            }
            if (word.equals("(")) {
                Node inner = cond(within + 1);
                must(")");
                return inner;
            }
            Node n = join(word, null, null);
            if (word.equals("hours") || word.equals("nth") || word.equals("over")) {
                if (!is("<") && !is("=") && !is(">")) {
                    throw fault(1);
                }
                n.sign = here().text.charAt(0);
                at++;
                n.number = number(0, 99999);
            }
            return n;
        }
    }

    int contract(int s) {
        List<Integer> bytes = tape;
        tape = new ArrayList<>();
        if (s < 0 || s >= singers.size()) {
            return -1000;
        }
        try {
            Parser p = new Parser(pieces(bytes));
            p.rules();
            singers.get(s).paper = p.paper;
            fault = 0;
            toldSince = true;
            return p.paper.rules;
        } catch (Fault f) {
            fault = f.kind;
            return -1 - f.place;
        }
    }

    int fault() {
        return fault;
    }

    boolean learn(int s, int o, int r, int hours) {
        if (!isSinger(s) || o < 0 || o >= operas.size() || r < 0 || r >= operas.get(o).roles.size()
                || hours < 1 || hours > 99 || lessons.size() == 200) {
            return false;
        }
        lessons.add(new int[] {s, o, r, hours, today});
        toldSince = true;
        return true;
    }

    int call(int day, int hour, int kind, int opera, int halves) {
        if (events.size() == 60 || opera < 0 || opera >= operas.size() || day < today || day > 29
                || kind < 0 || kind > 3 || halves < 0 || halves > 3 || hour < 0) {
            return NONE;
        }
        Event e = event(day, hour, kind, opera, halves);
        if (hour + e.length > 24) {
            return NONE;
        }
        events.add(e);
        toldSince = true;
        return e.number;
    }

    private Event event(int day, int hour, int kind, int opera, int halves) {
        Event e = new Event();
        e.number = events.size();
        e.day = day;
        e.hour = hour;
        e.kind = kind;
        e.opera = opera;
        e.halves = halves;
        e.length = kind == 0 ? 2 : kind == 1 ? 3 : operas.get(opera).hours;
        return e;
    }

    boolean cast(int c, int r, int s, boolean cover) {
        if (!isRole(c, r) || s < -1 || s >= singers.size() || events.get(c).day < today || casts.size() == 400) {
            return false;
        }
        tellCast(c, r, s, cover);
        toldSince = true;
        return true;
    }

    private void tellCast(int c, int r, int s, boolean cover) {
        int[] telling = {c, r, s, cover ? 1 : 0, today};
        casts.add(telling);
        // a list of its own, as copies of the model share the old one
        List<int[]> all = new ArrayList<>(castsThere(c, r, cover));
        all.add(telling);
        castsOf.put(castKey(c, r, cover), all);
    }

    private static int castKey(int c, int r, boolean cover) {
        return c * 16 + r * 2 + (cover ? 1 : 0);
    }

    private List<int[]> castsThere(int c, int r, boolean cover) {
        return castsOf.getOrDefault(castKey(c, r, cover), List.of());
    }

    boolean ill(int s, int from, int to) {
        if (!isSinger(s) || from < 0 || to > 29 || from > to || ills.size() == 60) {
            return false;
        }
        ills.add(new int[] {s, from, to, today});
        toldSince = true;
        return true;
    }

    boolean isSinger(int s) {
        return s >= 0 && s < singers.size();
    }

    boolean isCall(int c) {
        return c >= 0 && c < events.size();
    }

    boolean isRole(int c, int r) {
        return isCall(c) && r >= 0 && r < workOf(events.get(c)).roles.size();
    }

    Work workOf(Event e) {
        return operas.get(e.opera);
    }

    /** All who were told there and known by t, the latest last. */
    List<Integer> tellings(int c, int r, boolean cover, int t) {
        List<Integer> all = new ArrayList<>();
        for (int[] x : castsThere(c, r, cover)) {
            if (x[4] <= t) {
                all.add(x[2]);
            }
        }
        return all;
    }

    int who(int c, int r, boolean cover, int t) {
        if (!isRole(c, r)) {
            return NONE;
        }
        int latest = NONE;
        for (int[] x : castsThere(c, r, cover)) {
            latest = x[4] <= t ? x[2] : latest;
        }
        return latest;
    }

    boolean isIn(int s, int c, int t) {
        for (int r = 0; r < workOf(events.get(c)).roles.size(); r++) {
            if (who(c, r, false, t) == s) {
                return true;
            }
        }
        return false;
    }

    /** One's calls in the order of calls. */
    List<Event> callsOf(int s, int t) {
        List<Event> own = new ArrayList<>();
        for (Event e : inOrder()) {
            if (isIn(s, e.number, t)) {
                own.add(e);
            }
        }
        return own;
    }

    List<Event> inOrder() {
        List<Event> all = new ArrayList<>(events);
        all.sort((x, y) -> x.begin() != y.begin() ? x.begin() - y.begin() : x.number - y.number);
        return all;
    }

    static boolean isAhead(Event x, Event y) {
        return x.begin() < y.begin() || x.begin() == y.begin() && x.number < y.number;
    }

    static boolean isOn(Event x, int hour) {
        return x.begin() <= hour && hour < x.end();
    }

    boolean isIll(int s, int day, int t) {
        for (int[] x : ills) {
            if (x[0] == s && x[1] <= day && day <= x[2] && x[3] <= t) {
                return true;
            }
        }
        return false;
    }

    boolean suits(int s, int[] role) {
        Person p = singers.get(s);
        return (p.voices & 1 << role[0]) != 0 && (p.tongues & 1 << role[2]) != 0 && Math.abs(p.size - role[3]) < 2;
    }

    int learned(int s, int c, int r, int t) {
        if (!isSinger(s) || !isRole(c, r)) {
            return NONE;
        }
        Event e = events.get(c);
        int sum = 0;
        for (int[] x : lessons) {
            sum += x[0] == s && x[1] == e.opera && x[2] == r && x[4] <= t ? x[3] : 0;
        }
        for (Event x : events) {
            if (x.kind < 3 && x.opera == e.opera && x.end() <= e.begin() && who(x.number, r, false, t) == s) {
                sum += x.length;
            }
        }
        return sum;
    }

    int tired(int s, int c, int t) {
        if (!isSinger(s) || !isCall(c)) {
            return NONE;
        }
        int tired = 0;
        List<Event> own = callsOf(s, t);
        for (int hour = 0; hour <= events.get(c).begin(); hour++) {
            if (tired > 0) {
                tired--;
            }
            for (Event e : own) {
                if (e.begin() == hour) {
                    for (int r = 0; r < workOf(e).roles.size(); r++) {
                        if (who(e.number, r, false, t) == s) {
                            int strain = workOf(e).roles.get(r)[1];
                            tired += e.kind == 3 ? 2 * strain : e.kind == 2 ? strain : 0;
                        }
                    }
                }
            }
        }
        return tired;
    }

    int fee(int s, int c, int t) {
        if (!isSinger(s) || !isCall(c)) {
            return NONE;
        }
        boolean cast = false;
        boolean cover = false;
        boolean instead = false;
        Event e = events.get(c);
        for (int r = 0; r < workOf(e).roles.size(); r++) {
            cover |= who(c, r, true, t) == s;
            List<Integer> all = tellings(c, r, false, t);
            if (who(c, r, false, t) == s) {
                cast = true;
                if (all.size() > 1) {
                    int other = all.get(all.size() - 2);
                    instead |= other != NONE && other != s;
                }
            }
        }
        if (!cast && !cover || isIll(s, e.day, t)) {
            return 0;
        }
        int nth = 0;
        int hours = 0;
        if (cast) {
            for (Event x : callsOf(s, t)) {
                if (x == e || isAhead(x, e)) {
                    nth += x.kind == 3 ? 1 : 0;
                    hours += x.day == e.day ? x.length : 0;
                }
            }
        }
        Paper p = singers.get(s).paper;
        int sum = 0;
        for (int k = 0; k < p.sums.size(); k++) {
            int over = Math.max(0, hours - p.limits[1]);
            if (p.conds.get(k) == null || holds(p.conds.get(k), e, cover, instead, e.kind == 3 ? nth : 0, over)) {
                sum += p.sums.get(k);
            }
        }
        return sum;
    }

    boolean holds(Node n, Event e, boolean cover, boolean instead, int nth, int over) {
        switch (n.word) {
            case "or":
                return holds(n.left, e, cover, instead, nth, over) || holds(n.right, e, cover, instead, nth, over);
            case "and":
                return holds(n.left, e, cover, instead, nth, over) && holds(n.right, e, cover, instead, nth, over);
            case "not":
                return !holds(n.left, e, cover, instead, nth, over);
            case "room":
                return e.kind == 0;
            case "marks":
                return e.kind == 1;
            case "full":
                return e.kind == 2;
            case "night":
                return e.kind == 3;
            case "late":
                return e.hour + e.length > 22;
            case "cover":
                return cover;
            case "instead":
                return instead;
            default:
                int value = n.word.equals("hours") ? e.length : n.word.equals("nth") ? nth : over;
                return n.sign == '<' ? value < n.number : n.sign == '=' ? value == n.number : value > n.number;
        }
    }

    int pay(int s, int d, int t) {
        if (!isSinger(s) || d < 0 || d > 29) {
            return NONE;
        }
        int sum = 0;
        for (Event e : events) {
            sum += e.day <= d ? fee(s, e.number, t) : 0;
        }
        return sum;
    }

    // ---- wagons: a stand is five letters, the free place a dot ----

    static final int[][] WAYS = {{0, 1}, {0, 2}, {0, 3}, {4, 1}, {4, 3}};

    static Set<String> moved(Set<String> stands) {
        Set<String> all = new TreeSet<>(stands);
        for (String stand : stands) {
            for (int[] way : WAYS) {
                char x = stand.charAt(way[0]);
                char y = stand.charAt(way[1]);
                if (x == '.' || y == '.') {
                    char[] signs = stand.toCharArray();
                    signs[way[0]] = y;
                    signs[way[1]] = x;
                    all.add(new String(signs));
                }
            }
        }
        return all;
    }

    static Set<String> atFirst() {
        Set<String> stands = new TreeSet<>();
        stands.add("0123.");
        return stands;
    }

    static Set<String> showing(Set<String> stands, int set) {
        Set<String> some = new TreeSet<>();
        for (String stand : stands) {
            if (stand.charAt(0) == '0' + set) {
                some.add(stand);
            }
        }
        return some;
    }

    int moves(int set, int most) {
        if (set < 0 || set > 3 || most < 0 || most > 40) {
            return NONE;
        }
        Set<String> stands = atFirst();
        for (int k = 0; k <= most; k++) {
            if (!showing(stands, set).isEmpty()) {
                return k;
            }
            stands = moved(stands);
        }
        return NONE;
    }

    /** The numbers of all calls that are wrong by kind 2. */
    Set<Integer> wrongSets() {
        Set<Integer> wrong = new TreeSet<>();
        Set<String> stands = atFirst();
        List<Event> order = inOrder();
        boolean allReached = false;
        for (int hour = 0; hour < 720; hour++) {
            boolean busy = false;
            for (Event e : order) {
                if (e.begin() == hour && e.kind >= 2) {
                    Set<String> some = showing(stands, workOf(e).set);
                    if (some.isEmpty()) {
                        wrong.add(e.number);
                    } else {
                        stands = some;
                        allReached = false;
                    }
                }
                busy |= e.kind >= 1 && isOn(e, hour);
            }
            if (!busy && !allReached) {
                int before = stands.size();
                stands = moved(stands);
                allReached = stands.size() == before;
            }
        }
        return wrong;
    }

    // ---- what is wrong ----

    /** Each as kind, call, role. */
    List<int[]> wrongList(int t) {
        List<int[]> all = new ArrayList<>();
        Set<Integer> sets = wrongSets();
        for (Event e : inOrder()) {
            for (int kind = 1; kind <= 6; kind++) {
                if (ofCall(kind, e, sets)) {
                    all.add(new int[] {kind, e.number, NONE});
                }
            }
            for (int kind = 7; kind <= 15; kind++) {
                for (int r = 0; r < workOf(e).roles.size(); r++) {
                    int s = who(e.number, r, false, t);
                    if (s == NONE ? kind == 7 : kind > 7 && ofRole(kind, e, r, s, t)) {
                        all.add(new int[] {kind, e.number, r});
                    }
                }
            }
        }
        return all;
    }

    boolean ofCall(int kind, Event e, Set<Integer> sets) {
        switch (kind) {
            case 1:
                return crowded(e);
            case 2:
                return sets.contains(e.number);
            case 3:
                return e.kind == 3 && !prepared(e);
            case 4:
                return e.kind >= 2 && lacking(e);
            case 5:
                for (Event x : events) {
                    if (isAhead(x, e) && isOn(x, e.begin())) {
                        for (int half = 1; half <= 2; half++) {
                            if ((x.halves & half) != 0 && (e.halves & half) != 0) {
                                return true;
                            }
                        }
                    }
                }
                return false;
            default:
                return overSung(e);
        }
    }

    boolean crowded(Event e) {
        int marks = 0;
        int others = 0;
        for (Event x : events) {
            if (e.kind > 0 && x.kind > 0 && isAhead(x, e) && isOn(x, e.begin())) {
                if (x.kind == 1) {
                    marks++;
                } else {
                    others++;
                }
            }
        }
        return e.kind == 1 ? others > 0 || marks >= 2 : others + marks > 0;
    }

    boolean prepared(Event night) {
        for (Event room : ofKind(0, night.opera)) {
            for (Event marks : ofKind(1, night.opera)) {
                for (Event full : ofKind(2, night.opera)) {
                    if (marks.begin() >= room.end() && full.begin() >= marks.end() && full.end() <= night.begin()) {
                        return true;
                    }
                }
            }
        }
        return false;
    }

    private List<Event> ofKind(int kind, int opera) {
        List<Event> some = new ArrayList<>();
        for (Event e : events) {
            if (e.kind == kind && e.opera == opera) {
                some.add(e);
            }
        }
        return some;
    }

    boolean lacking(Event e) {
        for (int g = 0; g < 4; g++) {
            int there = 0;
            there += e.halves == 1 || e.halves == 3 ? players[g][0] : 0;
            there += e.halves == 2 || e.halves == 3 ? players[g][1] : 0;
            if (there < workOf(e).seats[g]) {
                return true;
            }
        }
        return false;
    }

    boolean overSung(Event e) {
        if (e.kind == 0 || !workOf(e).chorus) {
            return false;
        }
        int onDay = 0;
        int inWeek = 0;
        for (Event x : events) {
            if (x.kind > 0 && workOf(x).chorus && (x == e || isAhead(x, e))) {
                onDay += x.day == e.day ? x.length : 0;
                inWeek += x.day >= e.day - 6 && x.day <= e.day ? x.length : 0;
            }
        }
        return onDay > daily || inWeek > weekly;
    }

    boolean ofRole(int kind, Event e, int r, int s, int t) {
        Paper paper = singers.get(s).paper;
        switch (kind) {
            case 8:
                return !suits(s, workOf(e).roles.get(r));
            case 9:
                return e.kind == 3 && learned(s, e.number, r, t) < workOf(e).need;
            case 10:
                for (int[] leave : paper.leaves) {
                    if (leave[0] <= e.day && e.day <= leave[1]) {
                        return true;
                    }
                }
                return isIll(s, e.day, t);
            case 11:
                for (int lesser = 0; lesser < r; lesser++) {
                    if (who(e.number, lesser, false, t) == s) {
                        return true;
                    }
                }
                for (Event x : callsOf(s, t)) {
                    if (isAhead(x, e) && isOn(x, e.begin())) {
                        return true;
                    }
                }
                return false;
            case 15:
                return tired(s, e.number, t) > paper.limits[3];
            default:
                return counted(kind, e, s, t, paper);
        }
    }

    boolean counted(int kind, Event e, int s, int t, Paper paper) {
        Event latest = null;
        int hours = e.length;
        int nights = 1;
        for (Event x : callsOf(s, t)) {
            if (isAhead(x, e)) {
                latest = x.kind >= 2 ? x : latest;
                hours += x.day == e.day ? x.length : 0;
                nights += x.kind == 3 && e.day - x.day <= 6 ? 1 : 0;
            }
        }
        if (kind == 12) {
            return latest != null && latest.day != e.day && e.begin() - latest.end() < paper.limits[0];
        }
        if (kind == 13) {
            return hours > paper.limits[1] + 4;
        }
        return e.kind == 3 && nights > paper.limits[2];
    }

    int wrong(int t) {
        wrongs = wrongList(t);
        return wrongs.size();
    }

    int told(int k, int what) {
        if (k < 0 || k >= wrongs.size() || what < 0 || what > 2) {
            throw new NoSuchElementException();
        }
        return wrongs.get(k)[what];
    }

    // ---- instead ----

    Model copy() {
        Model m = new Model();
        m.today = today;
        m.operas = operas;
        m.singers = singers;
        m.events = new ArrayList<>(events);
        m.players = players;
        m.daily = daily;
        m.weekly = weekly;
        m.casts = new ArrayList<>(casts);
        m.castsOf = new HashMap<>(castsOf);
        m.ills = ills;
        m.lessons = lessons;
        return m;
    }

    Set<String> wrongOf(int s) {
        Set<String> all = new TreeSet<>();
        for (Event e : events) {
            for (int r = 0; r < workOf(e).roles.size(); r++) {
                if (who(e.number, r, false, today) == s) {
                    for (int kind = 8; kind <= 15; kind++) {
                        if (kind != 9 && ofRole(kind, e, r, s, today)) {
                            all.add(kind + " " + e.number + " " + r);
                        }
                    }
                }
            }
        }
        return all;
    }

    boolean may(int s, int c, int r) {
        if (!isSinger(s) || !isRole(c, r) || events.get(c).day < today || isIn(s, c, today)) {
            return false;
        }
        Model then = copy();
        then.tellCast(c, r, s, false);
        return wrongOf(s).containsAll(then.wrongOf(s));
    }

    int harm(int s, int c, int r) {
        if (!isSinger(s) || !isRole(c, r) || isIn(s, c, today)) {
            return NONE;
        }
        Model then = copy();
        then.tellCast(c, r, s, false);
        Work w = workOf(events.get(c));
        int harm = who(c, r, true, today) == s ? 0 : 100;
        harm += 10 * Math.max(0, w.need - learned(s, c, r, today));
        harm += 3 * Math.abs(singers.get(s).size - w.roles.get(r)[3]);
        return harm + then.fee(s, c, today) / 100;
    }

    int instead(int c, int r) {
        int best = NONE;
        for (int s = singers.size() - 1; s >= 0; s--) {
            if (may(s, c, r) && (best == NONE || harm(s, c, r) <= harm(best, c, r))) {
                best = s;
            }
        }
        return best;
    }

    // ---- nights that are laid ----

    private int tries;
    private Set<String> soBefore;
    private int eventsBefore;

    private static final class TooMany extends RuntimeException {
    }

    int lay(int first, int last, int hour) {
        wishes = tape;
        tape = new ArrayList<>();
        nights = null;
        toldSince = true;
        if (wishes.isEmpty() || wishes.size() > 6 || first < today || last < first || last > 29 || hour < 0
                || events.size() + wishes.size() > 60) {
            return NONE;
        }
        for (int o : wishes) {
            if (o >= operas.size() || hour + operas.get(o).hours > 24) {
                return NONE;
            }
        }
        tries = 0;
        nightHour = hour;
        eventsBefore = events.size();
        soBefore = allWrong();
        int[] days = new int[wishes.size()];
        try {
            if (!layFrom(0, first, last, days, this)) {
                return 0;
            }
        } catch (TooMany e) {
            return -2;
        }
        nights = days;
        toldSince = false;
        return tries;
    }

    private boolean layFrom(int k, int first, int last, int[] days, Model now) {
        if (k == wishes.size()) {
            return true;
        }
        for (int day = first; day <= last; day++) {
            if (tries == 400) {
                throw new TooMany();
            }
            tries++;
            Model then = now.copy();
            then.night(wishes.get(k), day, nightHour);
            days[k] = day;
            if (holdsWith(then) && layFrom(k + 1, day + 1, last, days, then)) {
                return true;
            }
        }
        return false;
    }

    private void night(int o, int day, int hour) {
        int source = NONE;
        for (Event e : inNumbers()) {
            source = e.opera == o ? e.number : source;
        }
        events.add(event(day, hour, 3, o, 3));
        for (int r = 0; r < operas.get(o).roles.size(); r++) {
            int s = source == NONE ? NONE : who(source, r, false, today);
            if (s != NONE) {
                tellCast(events.size() - 1, r, s, false);
            }
        }
    }

    /** The greatest number first. */
    private List<Event> inNumbers() {
        List<Event> all = new ArrayList<>(events);
        all.sort((x, y) -> y.number - x.number);
        return all;
    }

    private Set<String> allWrong() {
        Set<String> all = new TreeSet<>();
        for (int[] x : wrongList(today)) {
            all.add(x[0] + " " + x[1] + " " + x[2]);
        }
        return all;
    }

    private boolean holdsWith(Model then) {
        for (int[] x : then.wrongList(today)) {
            if (x[1] >= eventsBefore || !soBefore.contains(x[0] + " " + x[1] + " " + x[2])) {
                return false;
            }
        }
        return true;
    }

    int laid(int k) {
        return nights == null || k < 0 || k >= nights.length ? NONE : nights[k];
    }

    int keep() {
        if (nights == null || toldSince) {
            return NONE;
        }
        Model then = copy();
        for (int k = 0; k < nights.length; k++) {
            then.night(wishes.get(k), nights[k], nightHour);
        }
        if (then.casts.size() > 400) {
            return NONE;
        }
        events = then.events;
        casts = then.casts;
        castsOf = then.castsOf;
        toldSince = true;
        return events.size();
    }

    int count(int what) {
        int[] all = {today, operas.size(), singers.size(), events.size(), casts.size(), ills.size(), tape.size()};
        return what < 0 || what > 6 ? NONE : all[what];
    }
}
