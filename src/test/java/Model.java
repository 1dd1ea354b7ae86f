import java.util.ArrayList;
import java.util.HashMap;
import java.util.List;
import java.util.Map;

/**
 * The document once more, told slowly: closures for tests, lists for all that was, nothing packed
 * and nothing kept from one question to the next. The program's answers are held against it.
 */
final class Model {
    static final List<String> OWN = List.of("room", "door", "who", "in", "thing", "says", "go",
        "take", "lay", "wipe", "feel", "kill", "when", "or", "and", "not", "all", "at", "has",
        "near", "alone", "dead", "knows", "minute", "mood", "min", "max");

    interface Sum {
        long of(Night night);
    }

    interface Test {
        boolean holds(Night night);
    }

    static final class Rule {
        String kind;
        int who;
        int what = -1;
        int victim = -1;
        Sum sum;
        Test test;
    }

    static final class House {
        final List<String> rooms = new ArrayList<>();
        final List<int[]> doors = new ArrayList<>();
        final List<String> persons = new ArrayList<>();
        final List<String> things = new ArrayList<>();
        final List<Rule> rules = new ArrayList<>();
        final List<int[]> claims = new ArrayList<>();
        final List<Integer> begins = new ArrayList<>();
        final List<Integer> lies = new ArrayList<>();

        boolean isDoor(int a, int b) {
            for (int[] door : doors) {
                if (door[0] == a && door[1] == b || door[0] == b && door[1] == a) {
                    return true;
                }
            }
            return false;
        }

        /** Doors from a to b, by looking ever farther; -1 without a way. */
        int doorsBetween(int a, int b) {
            List<Integer> reached = new ArrayList<>(List.of(a));
            for (int steps = 0; steps <= rooms.size(); steps++) {
                if (reached.contains(b)) {
                    return steps;
                }
                List<Integer> more = new ArrayList<>(reached);
                for (int r = 0; r < rooms.size(); r++) {
                    for (int from : reached) {
                        if (isDoor(from, r) && !more.contains(r)) {
                            more.add(r);
                        }
                    }
                }
                reached = more;
            }
            return -1;
        }

        int wayOn(int a, int b) {
            int best = -1;
            for (int r = 0; r < rooms.size(); r++) {
                if (isDoor(a, r) && doorsBetween(r, b) >= 0
                    && (best < 0 || doorsBetween(r, b) < doorsBetween(best, b))) {
                    best = r;
                }
            }
            return a == b ? -1 : best;
        }
    }

    static final class Food {
        final Map<Integer, Integer> begins = new HashMap<>();
        final Map<Integer, Integer> lies = new HashMap<>();
        final List<Integer> out = new ArrayList<>();

        Food copy() {
            Food copy = new Food();
            copy.begins.putAll(begins);
            copy.lies.putAll(lies);
            copy.out.addAll(out);
            return copy;
        }
    }

    static long bound(long x) {
        return x > 1000000 ? 1000000 : x < -1000000 ? -1000000 : x;
    }

    /** An evening, with a copy of everything at each minute's end. */
    static final class Night {
        final House house;
        final Food food;
        final int n;
        final int[] room;
        final boolean[] dead;
        final int[] place;
        final long[] mood;
        final int[][] knows;
        int minute;
        final List<int[]> rooms = new ArrayList<>();
        final List<boolean[]> deads = new ArrayList<>();
        final List<int[]> places = new ArrayList<>();
        final List<long[]> moods = new ArrayList<>();
        final List<int[]> dones = new ArrayList<>();
        final List<int[]> deeds = new ArrayList<>();
        final List<int[]> traces = new ArrayList<>();

        Night(House house, Food food, int n) {
            this.house = house;
            this.food = food;
            this.n = n;
            int p = house.persons.size();
            room = new int[p];
            dead = new boolean[p];
            mood = new long[p];
            knows = new int[p][p];
            place = new int[house.things.size()];
            for (int i = 0; i < p; i++) {
                room[i] = food.begins.getOrDefault(i, house.begins.get(i));
                java.util.Arrays.fill(knows[i], -1);
            }
            for (int i = 0; i < place.length; i++) {
                place[i] = food.lies.getOrDefault(i, house.lies.get(i));
            }
            for (minute = 0; minute < n; minute++) {
                int[] done = new int[p];
                for (int i = 0; i < p; i++) {
                    done[i] = dead[i] ? -1 : turn(i);
                }
                dones.add(done);
                for (int i = 0; i < p; i++) {
                    for (int j = 0; j < p; j++) {
                        if (i != j && !dead[i] && dead[j] && room[i] == room[j] && knows[i][j] < 0) {
                            knows[i][j] = minute;
                        }
                    }
                }
                rooms.add(room.clone());
                deads.add(dead.clone());
                places.add(place.clone());
                moods.add(mood.clone());
            }
        }

        private int turn(int person) {
            for (int r = 0; r < house.rules.size(); r++) {
                Rule rule = house.rules.get(r);
                if (rule.who == person && !food.out.contains(r) && rule.kind.equals("feel")
                    && rule.test.holds(this)) {
                    mood[person] = bound(mood[person] + rule.sum.of(this));
                }
            }
            for (int r = 0; r < house.rules.size(); r++) {
                Rule rule = house.rules.get(r);
                if (rule.who == person && !food.out.contains(r) && !rule.kind.equals("feel")
                    && rule.test.holds(this) && act(rule, r)) {
                    return r;
                }
            }
            return -1;
        }

        private boolean act(Rule rule, int number) {
            int here = room[rule.who];
            switch (rule.kind) {
                case "go": {
                    int on = house.wayOn(here, rule.what);
                    if (on < 0) {
                        return false;
                    }
                    room[rule.who] = on;
                    return true;
                }
                case "take": {
                    if (place[rule.what] != here) {
                        return false;
                    }
                    place[rule.what] = 100 + rule.who;
                    traces.add(new int[] {minute, 1, rule.what, rule.who, here, -1});
                    return true;
                }
                case "lay": {
                    if (place[rule.what] != 100 + rule.who) {
                        return false;
                    }
                    place[rule.what] = here;
                    traces.add(new int[] {minute, 2, rule.what, rule.who, here, -1});
                    return true;
                }
                case "wipe": {
                    boolean any = false;
                    for (int[] trace : traces) {
                        if (trace[4] == here && trace[5] < 0) {
                            trace[5] = minute;
                            any = true;
                        }
                    }
                    return any;
                }
                default: {
                    boolean can = !dead[rule.victim] && room[rule.victim] == here
                        && place[rule.what] == 100 + rule.who;
                    for (int i = 0; i < room.length; i++) {
                        if (i != rule.who && i != rule.victim && !dead[i] && room[i] == here) {
                            can = false;
                        }
                    }
                    if (!can) {
                        return false;
                    }
                    dead[rule.victim] = true;
                    for (int t = 0; t < place.length; t++) {
                        if (place[t] == 100 + rule.victim) {
                            place[t] = here;
                        }
                    }
                    traces.add(new int[] {minute, 3, rule.what, rule.who, here, -1});
                    deeds.add(new int[] {rule.who, rule.victim, rule.what, minute, here, number});
                    return true;
                }
            }
        }

        int saw(int a, int b, int m) {
            if (a == b || deads.get(m)[a] || rooms.get(m)[a] != rooms.get(m)[b]) {
                return 0;
            }
            return deads.get(m)[b] ? 2 : 1;
        }

        boolean deadAtEnd(int person) {
            return deads.get(n - 1)[person];
        }

        int[] span(int victim, List<Integer> asked) {
            int first = 0;
            int last = n - 1;
            for (int m = 0; m < n; m++) {
                for (int a : asked) {
                    if (saw(a, victim, m) == 1) {
                        first = m + 1;
                    }
                }
            }
            for (int m = n - 1; m >= 0; m--) {
                for (int a : asked) {
                    if (saw(a, victim, m) == 2) {
                        last = m;
                    }
                }
            }
            return new int[] {first, last};
        }

        List<Integer> asked(int set) {
            List<Integer> asked = new ArrayList<>();
            for (int i = 0; i < room.length; i++) {
                if ((set >> i & 1) == 1 && !deadAtEnd(i)) {
                    asked.add(i);
                }
            }
            return asked;
        }

        int could(int victim, int set) {
            List<Integer> asked = asked(set);
            int[] span = span(victim, asked);
            int where = rooms.get(n - 1)[victim];
            int could = 0;
            for (int p = 0; p < room.length; p++) {
                boolean cleared = true;
                for (int m = span[0]; m <= span[1]; m++) {
                    boolean told = false;
                    for (int a : asked) {
                        int saw = saw(a, p, m);
                        told |= saw == 2 || saw == 1 && rooms.get(m)[p] != where;
                    }
                    cleared &= told;
                }
                if (p != victim && !cleared) {
                    could |= 1 << p;
                }
            }
            return could;
        }

        boolean known(int victim, int set) {
            return Integer.bitCount(could(victim, set)) == 1;
        }

        int leastSet(int victim) {
            int best = -1;
            for (int set = 0; set < 1 << room.length; set++) {
                boolean allLive = true;
                for (int i = 0; i < room.length; i++) {
                    allLive &= (set >> i & 1) == 0 || !deadAtEnd(i);
                }
                if (allLive && known(victim, set)
                    && (best < 0 || Integer.bitCount(set) < Integer.bitCount(best))) {
                    best = set;
                }
            }
            return best;
        }

        boolean fair(int victim) {
            return known(victim, (1 << room.length) - 1);
        }
    }

    // ---- the text

    static final class Fault extends RuntimeException {
        private static final long serialVersionUID = 1;
        final int kind;
        final int place;

        Fault(int kind, int place) {
            super(null, null, false, false);
            this.kind = kind;
            this.place = place;
        }
    }

    /** Tokens: a word, a number, a sign, "" for the end, or a fault that waits to be reached. */
    static final class Token {
        final String text;
        final int place;
        final boolean bad;

        Token(String text, int place, boolean bad) {
            this.text = text;
            this.place = place;
            this.bad = bad;
        }
    }

    static final class Parser {
        final String text;
        final List<Token> tokens = new ArrayList<>();
        int at;
        int open;
        House house = new House();

        Parser(String text) {
            this.text = text;
            int i = 0;
            while (i < text.length()) {
                char c = text.charAt(i);
                if (c == ' ' || c == '\n') {
                    i++;
                    continue;
                }
                boolean word = c >= 'a' && c <= 'z';
                boolean number = c >= '0' && c <= '9';
                int j = i + 1;
                if (word || number) {
                    while (j < text.length() && (word && text.charAt(j) >= 'a' && text.charAt(j) <= 'z'
                        || number && text.charAt(j) >= '0' && text.charAt(j) <= '9')) {
                        j++;
                    }
                    if (i > 0 && Character.isLetterOrDigit(text.charAt(i - 1)) && text.charAt(i - 1) < 128) {
                        char before = text.charAt(i - 1);
                        if (before >= 'a' && before <= 'z' || before >= '0' && before <= '9') {
                            tokens.add(new Token("?", i, true));
                            return;
                        }
                    }
                    int most = word ? 6 : 4;
                    if (j - i > most) {
                        tokens.add(new Token("?", i + most, true));
                        return;
                    }
                }
                tokens.add(new Token(text.substring(i, j), i, false));
                i = j;
            }
            tokens.add(new Token("", text.length(), false));
        }

        Token now() {
            Token token = tokens.get(at);
            if (token.bad) {
                throw new Fault(1, token.place);
            }
            return token;
        }

        boolean is(String text) {
            return now().text.equals(text);
        }

        boolean isName() {
            return now().text.matches("[a-z]+") && !OWN.contains(now().text);
        }

        boolean isNumber() {
            return now().text.matches("[0-9]+");
        }

        void need(String text) {
            if (!is(text)) {
                throw new Fault(1, now().place);
            }
            at++;
        }

        String give() {
            if (!isName()) {
                throw new Fault(1, now().place);
            }
            String name = now().text;
            if (house.rooms.contains(name) || house.persons.contains(name) || house.things.contains(name)) {
                throw new Fault(2, now().place);
            }
            at++;
            return name;
        }

        int ask(List<String> kind, int unlike) {
            if (!isName()) {
                throw new Fault(1, now().place);
            }
            int which = kind.indexOf(now().text);
            if (which < 0 || which == unlike) {
                throw new Fault(3, now().place);
            }
            at++;
            return which;
        }

        int number(int low) {
            if (!isNumber()) {
                throw new Fault(1, now().place);
            }
            int n = Integer.parseInt(now().text);
            if (n < low || n > 179) {
                throw new Fault(4, now().place);
            }
            at++;
            return n;
        }

        int parse() {
            int statements = 0;
            while (!is("")) {
                statement();
                need(";");
                statements++;
            }
            return statements;
        }

        void room(int have, int most) {
            if (have == most) {
                throw new Fault(5, now().place);
            }
        }

        void statement() {
            String word = now().text;
            switch (word) {
                case "room":
                    room(house.rooms.size(), 8);
                    at++;
                    house.rooms.add(give());
                    break;
                case "door": {
                    room(house.doors.size(), 16);
                    at++;
                    int a = ask(house.rooms, -1);
                    Token token = now();
                    int b = ask(house.rooms, a);
                    if (house.isDoor(a, b)) {
                        throw new Fault(2, token.place);
                    }
                    house.doors.add(new int[] {a, b});
                    break;
                }
                case "who": {
                    room(house.persons.size(), 8);
                    at++;
                    String name = give();
                    need("in");
                    house.begins.add(ask(house.rooms, -1));
                    house.persons.add(name);
                    break;
                }
                case "thing": {
                    room(house.things.size(), 8);
                    at++;
                    String name = give();
                    need("in");
                    house.lies.add(ask(house.rooms, -1));
                    house.things.add(name);
                    break;
                }
                case "says": {
                    room(house.claims.size(), 12);
                    at++;
                    int p = ask(house.persons, -1);
                    int r = ask(house.rooms, -1);
                    int from = number(0);
                    house.claims.add(new int[] {p, r, from, number(from)});
                    break;
                }
                case "go":
                case "take":
                case "lay":
                case "wipe":
                case "feel":
                case "kill":
                    room(house.rules.size(), 30);
                    at++;
                    rule(word);
                    break;
                default:
                    throw new Fault(1, now().place);
            }
        }

        void rule(String word) {
            Rule rule = new Rule();
            rule.kind = word;
            rule.who = ask(house.persons, -1);
            switch (word) {
                case "go":
                    rule.what = ask(house.rooms, -1);
                    break;
                case "take":
                case "lay":
                    rule.what = ask(house.things, -1);
                    break;
                case "feel":
                    rule.sum = sum();
                    break;
                case "kill":
                    rule.victim = ask(house.persons, rule.who);
                    rule.what = ask(house.things, -1);
                    break;
                default:
                    break;
            }
            need("when");
            rule.test = test();
            house.rules.add(rule);
        }

        Test test() {
            List<Test> parts = new ArrayList<>(List.of(both()));
            while (is("or")) {
                at++;
                parts.add(both());
            }
            return night -> parts.stream().anyMatch(t -> t.holds(night));
        }

        Test both() {
            List<Test> parts = new ArrayList<>(List.of(fact()));
            while (is("and")) {
                at++;
                parts.add(fact());
            }
            return night -> parts.stream().allMatch(t -> t.holds(night));
        }

        void opens() {
            if (open == 8) {
                throw new Fault(5, now().place);
            }
            open++;
            at++;
        }

        Test fact() {
            String word = now().text;
            switch (word) {
                case "not": {
                    at++;
                    Test turned = fact();
                    return night -> !turned.holds(night);
                }
                case "[": {
                    opens();
                    Test in = test();
                    need("]");
                    open--;
                    return in;
                }
                case "all":
                    at++;
                    return night -> true;
                case "at": {
                    at++;
                    int p = ask(house.persons, -1);
                    int r = ask(house.rooms, -1);
                    return night -> night.room[p] == r;
                }
                case "has": {
                    at++;
                    int p = ask(house.persons, -1);
                    int t = ask(house.things, -1);
                    return night -> night.place[t] == 100 + p;
                }
                case "near": {
                    at++;
                    int p = ask(house.persons, -1);
                    int q = ask(house.persons, p);
                    return night -> !night.dead[p] && !night.dead[q] && night.room[p] == night.room[q];
                }
                case "alone": {
                    at++;
                    int p = ask(house.persons, -1);
                    return night -> {
                        for (int q = 0; q < night.room.length; q++) {
                            if (q != p && !night.dead[q] && night.room[q] == night.room[p]) {
                                return false;
                            }
                        }
                        return true;
                    };
                }
                case "dead": {
                    at++;
                    int p = ask(house.persons, -1);
                    return night -> night.dead[p];
                }
                case "knows": {
                    at++;
                    int p = ask(house.persons, -1);
                    int q = ask(house.persons, p);
                    return night -> night.knows[p][q] >= 0;
                }
                default:
                    break;
            }
            Sum a = sum();
            String sign = now().text;
            if (!sign.equals("<") && !sign.equals(">") && !sign.equals("=")) {
                throw new Fault(1, now().place);
            }
            at++;
            Sum b = sum();
            return night -> sign.equals("<") ? a.of(night) < b.of(night)
                : sign.equals(">") ? a.of(night) > b.of(night) : a.of(night) == b.of(night);
        }

        Sum sum() {
            Sum left = product();
            while (is("+") || is("-")) {
                boolean plus = is("+");
                at++;
                Sum a = left;
                Sum b = product();
                left = night -> bound(plus ? a.of(night) + b.of(night) : a.of(night) - b.of(night));
            }
            return left;
        }

        Sum product() {
            Sum left = part();
            while (is("*") || is("/") || is("%")) {
                String sign = now().text;
                at++;
                Sum a = left;
                Sum b = part();
                left = night -> {
                    long x = a.of(night);
                    long y = b.of(night);
                    if (sign.equals("*")) {
                        return bound(x * y);
                    }
                    if (y == 0) {
                        return 0;
                    }
                    long q = x / y;
                    if (q * y != x && (x < 0) != (y < 0)) {
                        q--;
                    }
                    return sign.equals("/") ? q : x - q * y;
                };
            }
            return left;
        }

        Sum part() {
            Token token = now();
            if (isNumber()) {
                long n = Long.parseLong(token.text);
                at++;
                return night -> n;
            }
            switch (token.text) {
                case "minute":
                    at++;
                    return night -> night.minute;
                case "mood": {
                    at++;
                    int p = ask(house.persons, -1);
                    return night -> night.mood[p];
                }
                case "(": {
                    opens();
                    Sum in = sum();
                    need(")");
                    open--;
                    return in;
                }
                case "min":
                case "max": {
                    at++;
                    if (!is("(")) {
                        throw new Fault(1, now().place);
                    }
                    opens();
                    Sum a = sum();
                    need(",");
                    Sum b = sum();
                    need(")");
                    open--;
                    return token.text.equals("min") ? night -> Math.min(a.of(night), b.of(night))
                        : night -> Math.max(a.of(night), b.of(night));
                }
                default:
                    throw new Fault(1, token.place);
            }
        }
    }

    // ---- the face

    private byte[] tape = new byte[0];
    private House house = new House();
    private Food food = new Food();
    private Night night;
    private int fault;
    private int place = -1;

    int feed(int a, int b, int c, int d, int e) {
        if (tape.length + 20 > 1200) {
            return -1;
        }
        java.nio.ByteBuffer more = java.nio.ByteBuffer.allocate(tape.length + 20);
        more.put(tape).putInt(a).putInt(b).putInt(c).putInt(d).putInt(e);
        tape = more.array();
        return tape.length;
    }

    boolean end(int n) {
        if (n < 0 || n > tape.length) {
            return false;
        }
        tape = java.util.Arrays.copyOf(tape, n);
        return true;
    }

    int text() {
        String text = new String(tape, java.nio.charset.StandardCharsets.ISO_8859_1);
        tape = new byte[0];
        fault = 0;
        place = -1;
        try {
            Parser parser = new Parser(text);
            int statements = parser.parse();
            house = parser.house;
            food = new Food();
            night = null;
            return statements;
        } catch (Fault found) {
            fault = found.kind;
            place = found.place;
            return -1;
        }
    }

    int fault(int what) {
        return what == 0 ? fault : what == 1 ? place : -1;
    }

    int has(int what) {
        switch (what) {
            case 0:
                return house.rooms.size();
            case 1:
                return house.doors.size();
            case 2:
                return house.persons.size();
            case 3:
                return house.things.size();
            case 4:
                return house.rules.size();
            case 5:
                return house.claims.size();
            case 6:
                return night == null ? 0 : night.n;
            case 7:
                return night == null ? 0 : night.deeds.size();
            case 8:
                return night == null ? 0 : night.traces.size();
            default:
                return -1;
        }
    }

    int letter(int kind, int which, int k) {
        if (kind < 0 || kind > 2) {
            return -1;
        }
        List<String> names = kind == 0 ? house.rooms : kind == 1 ? house.persons : house.things;
        if (which < 0 || which >= names.size() || k < 0 || k >= names.get(which).length()) {
            return -1;
        }
        return names.get(which).charAt(k);
    }

    boolean person(int p) {
        return p >= 0 && p < house.persons.size();
    }

    boolean minute(int m) {
        return night != null && m >= 0 && m < night.n;
    }

    boolean isRoom(int r) {
        return r >= 0 && r < house.rooms.size();
    }

    boolean begin(int p, int r) {
        if (!person(p) || !isRoom(r)) {
            return false;
        }
        food.begins.put(p, r);
        return true;
    }

    boolean put(int t, int r) {
        if (t < 0 || t >= house.things.size() || !isRoom(r)) {
            return false;
        }
        food.lies.put(t, r);
        return true;
    }

    boolean skip(int rule, boolean out) {
        if (rule < 0 || rule >= house.rules.size()) {
            return false;
        }
        food.out.remove((Integer) rule);
        if (out) {
            food.out.add(rule);
        }
        return true;
    }

    void anew() {
        food = new Food();
    }

    int run(int n) {
        if (n < 1 || n > 180) {
            return -1;
        }
        night = new Night(house, food.copy(), n);
        return night.deeds.size();
    }

    int was(int p, int m) {
        return person(p) && minute(m) ? night.rooms.get(m)[p] : -1;
    }

    int alive(int p, int m) {
        return person(p) && minute(m) ? night.deads.get(m)[p] ? 0 : 1 : -1;
    }

    int where(int t, int m) {
        return t >= 0 && t < house.things.size() && minute(m) ? night.places.get(m)[t] : -1;
    }

    int did(int p, int m) {
        return person(p) && minute(m) ? night.dones.get(m)[p] : -1;
    }

    int mood(int p, int m) {
        return person(p) && minute(m) ? (int) night.moods.get(m)[p] : -2000000000;
    }

    int deed(int k, int what) {
        return night != null && k >= 0 && k < night.deeds.size() && what >= 0 && what < 6
            ? night.deeds.get(k)[what] : -1;
    }

    int trace(int k, int what) {
        return night != null && k >= 0 && k < night.traces.size() && what >= 0 && what < 6
            ? night.traces.get(k)[what] : -1;
    }

    int saw(int p, int q, int m) {
        return person(p) && person(q) && minute(m) ? night.saw(p, q, m) : -1;
    }

    int knows(int p, int q) {
        return night != null && person(p) && person(q) ? night.knows[p][q] : -1;
    }

    int needed(int rule, int k) {
        if (night == null || rule < 0 || rule >= house.rules.size() || k < 0 || k >= night.deeds.size()) {
            return -1;
        }
        if (night.food.out.contains(rule)) {
            return 0;
        }
        Food without = night.food.copy();
        without.out.add(rule);
        int[] deed = night.deeds.get(k);
        for (int[] other : new Night(house, without, night.n).deeds) {
            if (other[0] == deed[0] && other[1] == deed[1]) {
                return 0;
            }
        }
        return 1;
    }

    boolean victim(int p) {
        return night != null && person(p) && night.deadAtEnd(p);
    }

    boolean set(int bits, int count) {
        return bits >= 0 && bits < 1 << count;
    }

    int span(int v, int asked, boolean last) {
        if (!victim(v) || !set(asked, house.persons.size())) {
            return -1;
        }
        return night.span(v, night.asked(asked))[last ? 1 : 0];
    }

    int could(int v, int asked, int rooms) {
        if (!victim(v) || !set(asked, house.persons.size()) || !set(rooms, house.rooms.size())
            || (rooms >> night.rooms.get(night.n - 1)[v] & 1) == 0) {
            return -1;
        }
        return night.could(v, asked);
    }

    int least(int v, boolean set) {
        if (!victim(v)) {
            return -1;
        }
        int least = night.leastSet(v);
        return least < 0 || set ? least : Integer.bitCount(least);
    }

    int fair(int v) {
        return victim(v) ? night.fair(v) ? 1 : 0 : -1;
    }

    /** The minute and the person by which a claim is caught, or null. */
    int[] catching(int[] claim) {
        for (int m = claim[2]; m <= claim[3] && m < night.n; m++) {
            for (int p = 0; p < house.persons.size(); p++) {
                if (!night.deadAtEnd(p) && night.saw(p, claim[0], m) != 0
                    && night.rooms.get(m)[claim[0]] != claim[1]) {
                    return new int[] {m, p};
                }
            }
        }
        return null;
    }

    int claim(int k) {
        if (night == null || k < 0 || k >= house.claims.size()) {
            return -1;
        }
        int[] claim = house.claims.get(k);
        for (int m = claim[2]; m <= claim[3] && m < night.n; m++) {
            if (night.rooms.get(m)[claim[0]] != claim[1]) {
                return catching(claim) == null ? 1 : 2;
            }
        }
        return 0;
    }

    int caught(int k, boolean who) {
        if (night == null || k < 0 || k >= house.claims.size()) {
            return -1;
        }
        int[] caught = catching(house.claims.get(k));
        return caught == null ? -1 : caught[who ? 1 : 0];
    }

    /** All the changes of a sort, in order: sort, number, room, and the evening by it. */
    List<Object[]> changes(int sort) {
        List<Object[]> all = new ArrayList<>();
        int count = sort == 0 ? house.rules.size() : sort == 1 ? house.persons.size() : house.things.size();
        for (int i = 0; i < count; i++) {
            for (int r = 0; r < (sort == 0 ? 1 : house.rooms.size()); r++) {
                Food food = night.food.copy();
                if (sort == 0) {
                    food.out.add(i);
                } else {
                    (sort == 1 ? food.begins : food.lies).put(i, r);
                }
                all.add(new Object[] {new int[] {sort, i, sort == 0 ? -1 : r}, new Night(house, food, night.n)});
            }
        }
        return all;
    }

    int spare(int what) {
        if (night == null || night.deeds.isEmpty() || what < 0 || what > 2) {
            return -1;
        }
        for (int sort = 0; sort < 3; sort++) {
            for (Object[] change : changes(sort)) {
                if (((Night) change[1]).deeds.isEmpty()) {
                    return ((int[]) change[0])[what];
                }
            }
        }
        return -1;
    }

    /** All four answers of fairest() at once, or null. */
    int[] fairestAll() {
        int[] best = null;
        for (int sort = 1; night != null && sort < 3; sort++) {
            for (Object[] change : changes(sort)) {
                Night other = (Night) change[1];
                if (other.deeds.size() == 1 && other.fair(other.deeds.get(0)[1])) {
                    int least = Integer.bitCount(other.leastSet(other.deeds.get(0)[1]));
                    if (best == null || least > best[3]) {
                        int[] told = (int[]) change[0];
                        best = new int[] {told[0], told[1], told[2], least};
                    }
                }
            }
        }
        return best;
    }
}
