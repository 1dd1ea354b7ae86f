import java.util.Arrays;

/**
 * A house in the snow in which a murder may run by itself: a text tells rooms, doors, people,
 * things and rules; an evening is let go by them; then a finder asks who saw whom, claims are
 * weighed, and changes of the breakfast are tried.
 *
 * <p>Every row is made in a constructor and used again: no call makes an object.
 */
public final class SnowHouse {
    /** None; refused. */
    public static final int NONE = -1;

    private static final int MOST = 8;
    private static final int MOST_RULES = 30;
    private static final int MOST_CLAIMS = 12;
    private static final int MINUTES = 180;
    private static final int TAPE = 1200;
    private static final int FED = 20;
    private static final int LIMIT = 1000000;
    private static final int NO_MOOD = -2000000000;
    private static final int CARRIED = 8;
    private static final int CARRIED_TOLD = 100;

    // What there is of each sort, by the numbers of has().
    private static final int ROOMS = 0;
    private static final int DOORS = 1;
    private static final int PERSONS = 2;
    private static final int THINGS = 3;
    private static final int RULES = 4;
    private static final int CLAIMS = 5;
    private static final int SORTS = 6;
    private static final int[] MOST_OF = {MOST, 16, MOST, MOST, MOST_RULES, MOST_CLAIMS};

    // A sign's token is its own byte; the own words follow in the order of OWN_WORDS.
    private static final String OWN_WORDS = "room door who in thing says go take lay wipe feel kill when or and not all at has near alone dead knows minute mood min max ";
    private static final int ROOM = 256;
    private static final int DOOR = 257;
    private static final int WHO = 258;
    private static final int IN = 259;
    private static final int THING = 260;
    private static final int SAYS = 261;
    private static final int GO = 262;
    private static final int TAKE = 263;
    private static final int LAY = 264;
    private static final int WIPE = 265;
    private static final int FEEL = 266;
    private static final int KILL = 267;
    private static final int WHEN = 268;
    private static final int OR = 269;
    private static final int AND = 270;
    private static final int NOT = 271;
    private static final int ALL = 272;
    private static final int AT = 273;
    private static final int HAS = 274;
    private static final int NEAR = 275;
    private static final int ALONE = 276;
    private static final int DEAD = 277;
    private static final int KNOWS = 278;
    private static final int MINUTE = 279;
    private static final int MOOD = 280;
    private static final int MIN = 281;
    private static final int MAX = 282;
    private static final int OWN_COUNT = 27;
    private static final int NAME = 300;
    private static final int NUMBER = 301;
    private static final int END = 302;
    private static final int BROKEN = 303;

    // The faults.
    private static final int FAULT_TEXT = 1;
    private static final int FAULT_GIVEN = 2;
    private static final int FAULT_ASKED = 3;
    private static final int FAULT_NUMBER = 4;
    private static final int FAULT_MANY = 5;

    // A step of the code that a test or a sum is read into: its token, and above it what it is of.
    private static final int TOKEN_BITS = 9;
    private static final int TOKEN_MASK = 511;
    private static final int WHICH_BITS = 3;
    private static final int WHICH_MASK = 7;

    private static final int LETTERS = 6;
    private static final int DIGITS = 4;
    // One of the letters and one of the digits stand for all of them.
    private static final int LETTER = 'a';
    private static final int DIGIT = '0';
    private static final int LETTER_BITS = 5;
    private static final int LETTER_MASK = 31;
    private static final int DEEPEST = 8;
    private static final int STACK = 48;
    private static final int NIBBLE_BITS = 4;
    private static final int NIBBLE = 15;

    private static final int DEED = 6;
    // Where the six parts of a trace stand in its number, by the numbers of trace().
    private static final int[] TRACE_SHIFT = {0, 8, 10, 13, 16, 19};
    private static final int[] TRACE_MASK = {255, 3, 7, 7, 7, 255};
    private static final int TRACE_KIND = 1;
    private static final int TRACE_THING = 2;
    private static final int TRACE_WHO = 3;
    private static final int TRACE_ROOM = 4;
    private static final int TRACE_WIPED = 5;

    // The sorts of changes, by the numbers of spare() and fairest().
    private static final int CHANGED_RULE = 0;
    private static final int CHANGED_PERSON = 1;
    private static final int CHANGED_THING = 2;

    private final byte[] tape;
    private int taped;
    private final Reader reader;
    private Story story;
    private Story draft;
    private final Breakfast breakfast;
    private final Evening evening;
    private final Finder finder;
    private final Changes changes;

    public SnowHouse() {
        tape = new byte[TAPE];
        story = new Story();
        draft = new Story();
        reader = new Reader(tape, draft);
        breakfast = new Breakfast();
        evening = new Evening(true);
        finder = new Finder();
        changes = new Changes();
    }

    // ---- the text

    public int feed(int a, int b, int c, int d, int e) {
        if (taped + FED > TAPE) {
            return NONE;
        }
        write(a);
        write(b);
        write(c);
        write(d);
        write(e);
        return taped;
    }

    private void write(int number) {
        for (int shift = 24; shift >= 0; shift -= 8) {
            if (taped < tape.length) {
                tape[taped] = (byte) (number >>> shift);
                taped++;
            }
        }
    }

    public boolean end(int n) {
        if (n < 0 || n > taped) {
            return false;
        }
        taped = n;
        return true;
    }

    public int text() {
        boolean told = reader.reads(taped, draft);
        taped = 0;
        if (!told) {
            return NONE;
        }
        Story before = story;
        story = draft;
        draft = before;
        breakfast.copy(story.told);
        evening.forget();
        changes.forget();
        return story.statements();
    }

    public int fault(int what) {
        switch (what) {
            case 0:
                return reader.fault;
            case 1:
                return reader.place;
            default:
                return NONE;
        }
    }

    public int has(int what) {
        if (what >= 0 && what < SORTS) {
            return story.counts[what];
        }
        switch (what) {
            case 6:
                return evening.minutes;
            case 7:
                return evening.deedCount;
            case 8:
                return evening.diary.traceCount;
            default:
                return NONE;
        }
    }

    public int letter(int kind, int which, int k) {
        switch (kind) {
            case 0:
                return story.nameLetter(ROOMS, which, k);
            case 1:
                return story.nameLetter(PERSONS, which, k);
            case 2:
                return story.nameLetter(THINGS, which, k);
            default:
                return NONE;
        }
    }

    // ---- breakfasts and evenings

    public boolean begin(int person, int room) {
        if (!story.there(PERSONS, person) || !story.there(ROOMS, room)) {
            return false;
        }
        breakfast.rooms[person] = room;
        return true;
    }

    public boolean put(int thing, int room) {
        if (!story.there(THINGS, thing) || !story.there(ROOMS, room)) {
            return false;
        }
        breakfast.places[thing] = room;
        return true;
    }

    public boolean skip(int rule, boolean out) {
        if (!story.there(RULES, rule)) {
            return false;
        }
        breakfast.leave(rule, out);
        return true;
    }

    public void anew() {
        breakfast.copy(story.told);
    }

    public int run(int n) {
        if (n < 1 || n > MINUTES) {
            return NONE;
        }
        evening.pass(story, breakfast, n, MOST);
        changes.forget();
        return evening.deedCount;
    }

    public int was(int person, int minute) {
        if (!story.there(PERSONS, person) || !evening.had(minute)) {
            return NONE;
        }
        return evening.roomThen(person, minute);
    }

    public int alive(int person, int minute) {
        if (!story.there(PERSONS, person) || !evening.had(minute)) {
            return NONE;
        }
        return evening.livedThen(person, minute) ? 1 : 0;
    }

    public int where(int thing, int minute) {
        if (!story.there(THINGS, thing) || !evening.had(minute)) {
            return NONE;
        }
        int place = evening.diary.placeThen(thing, minute);
        return place < CARRIED ? place : CARRIED_TOLD + place - CARRIED;
    }

    public int did(int person, int minute) {
        if (!story.there(PERSONS, person) || !evening.had(minute)) {
            return NONE;
        }
        return evening.diary.doneThen(person, minute);
    }

    public int mood(int person, int minute) {
        if (!story.there(PERSONS, person) || !evening.had(minute)) {
            return NO_MOOD;
        }
        return evening.diary.moodThen(person, minute);
    }

    public int deed(int k, int what) {
        if (k < 0 || k >= evening.deedCount || what < 0 || what >= DEED) {
            return NONE;
        }
        return evening.deedPart(k, what);
    }

    public int trace(int k, int what) {
        return evening.diary.tracePart(k, what);
    }

    public int saw(int person, int other, int minute) {
        if (!story.there(PERSONS, person) || !story.there(PERSONS, other) || !evening.had(minute)) {
            return NONE;
        }
        if ((evening.witnesses(other, minute) & (1 << person)) == 0) {
            return 0;
        }
        return evening.livedThen(other, minute) ? 1 : 2;
    }

    public int knows(int person, int other) {
        if (!story.there(PERSONS, person) || !story.there(PERSONS, other) || evening.minutes == 0) {
            return NONE;
        }
        return evening.scene.knownSince[person * MOST + other];
    }

    public int needed(int rule, int k) {
        if (!story.there(RULES, rule) || k < 0 || k >= evening.deedCount) {
            return NONE;
        }
        return changes.killsWithout(story, evening, rule, k) ? 0 : 1;
    }

    // ---- a finder

    public int span(int victim, int asked, boolean last) {
        if (!dead(victim) || !isSet(PERSONS, asked)) {
            return NONE;
        }
        finder.look(evening, story.counts[PERSONS], victim);
        finder.setSpan(asked);
        return last ? finder.spanLast : finder.spanFirst;
    }

    public int could(int victim, int asked, int rooms) {
        if (!dead(victim) || !isSet(PERSONS, asked) || !isSet(ROOMS, rooms)) {
            return NONE;
        }
        int room = evening.roomThen(victim, evening.minutes - 1);
        if ((rooms & (1 << room)) == 0) {
            return NONE;
        }
        finder.look(evening, story.counts[PERSONS], victim);
        return finder.suspects(asked);
    }

    public int least(int victim, boolean set) {
        if (!dead(victim)) {
            return NONE;
        }
        finder.look(evening, story.counts[PERSONS], victim);
        int fewest = finder.fewest();
        return set || fewest == NONE ? fewest : Integer.bitCount(fewest);
    }

    public int fair(int victim) {
        if (!dead(victim)) {
            return NONE;
        }
        finder.look(evening, story.counts[PERSONS], victim);
        return finder.known(finder.living) ? 1 : 0;
    }

    public int claim(int k) {
        if (!story.there(CLAIMS, k) || evening.minutes == 0) {
            return NONE;
        }
        Claim claim = story.claims[k];
        if (claim.holds(evening)) {
            return 0;
        }
        return claim.catching(evening, story.counts[PERSONS]) == NONE ? 1 : 2;
    }

    public int caught(int k, boolean who) {
        if (!story.there(CLAIMS, k) || evening.minutes == 0) {
            return NONE;
        }
        int catching = story.claims[k].catching(evening, story.counts[PERSONS]);
        if (catching == NONE) {
            return NONE;
        }
        return who ? catching % MOST : catching / MOST;
    }

    /** Whether there is an evening with such a person, dead at its end. */
    private boolean dead(int victim) {
        return story.there(PERSONS, victim) && evening.minutes > 0
            && !evening.livedThen(victim, evening.minutes - 1);
    }

    /** Whether all bits are of persons, or of rooms, that there are. */
    private boolean isSet(int sort, int bits) {
        return bits >= 0 && bits < (1 << story.counts[sort]);
    }

    // ---- changes

    public int spare(int what) {
        if (what < 0 || what >= changes.sparing.length || evening.deedCount == 0) {
            return NONE;
        }
        changes.seekSparing(story, evening);
        return changes.sparing[what];
    }

    public int fairest(int what) {
        if (what < 0 || what >= changes.fairest.length || evening.minutes == 0) {
            return NONE;
        }
        changes.seekFairest(story, evening, finder);
        return changes.fairest[what];
    }

    /** A rule as it is told; its sum and its test are stretches of the story's code. */
    private static final class Rule {
        int kind;
        int who;
        int what;
        int victim;
        int sumFrom;
        int testFrom;
        int testTo;
    }

    /** What a person says of itself: a room, and the minutes in which it was there. */
    private static final class Claim {
        int who;
        int room;
        int from;
        int to;

        boolean holds(Evening evening) {
            for (int minute = from; minute <= to && evening.had(minute); minute++) {
                if (evening.roomThen(who, minute) != room) {
                    return false;
                }
            }
            return true;
        }

        /** The minute in which it is caught, times eight, and the person by whom; or NONE. */
        int catching(Evening evening, int persons) {
            int living = evening.livingLast(persons);
            for (int minute = from; minute <= to && evening.had(minute); minute++) {
                int by = evening.roomThen(who, minute) == room
                    ? 0 : evening.witnesses(who, minute) & living;
                for (int person = 0; person < persons; person++) {
                    if ((by & (1 << person)) != 0) {
                        return minute * MOST + person;
                    }
                }
            }
            return NONE;
        }
    }

    /** Where people and things are at first, and which rules are left out. */
    private static final class Breakfast {
        final int[] rooms = new int[MOST];
        final int[] places = new int[MOST];
        private int leftOut;

        void copy(Breakfast other) {
            for (int i = 0; i < MOST; i++) {
                rooms[i] = other.rooms[i];
                places[i] = other.places[i];
            }
            leftOut = other.leftOut;
        }

        void clear() {
            Arrays.fill(rooms, 0);
            Arrays.fill(places, 0);
            leftOut = 0;
        }

        void leave(int rule, boolean out) {
            leftOut = out ? leftOut | (1 << rule) : leftOut & ~(1 << rule);
        }

        boolean leavesOut(int rule) {
            return (leftOut & (1 << rule)) != 0;
        }

        /** As the other one, but for one change. */
        void change(Breakfast other, int sort, int number, int room) {
            copy(other);
            if (sort == CHANGED_RULE) {
                leave(number, true);
            } else if (number >= 0 && number < MOST) {
                int[] row = sort == CHANGED_PERSON ? rooms : places;
                row[number] = room;
            }
        }
    }

    /** What a text tells. */
    private static final class Story {
        final int[] counts = new int[SORTS];
        private final int[] names = new int[SORTS * MOST];
        private final int[] doorsOf = new int[MOST];
        private final int[] far = new int[MOST * MOST];
        private final int[] way = new int[MOST * MOST];
        final Breakfast told = new Breakfast();
        final Rule[] rules = new Rule[MOST_RULES];
        final Claim[] claims = new Claim[MOST_CLAIMS];
        final int[] code = new int[TAPE];
        int codeLength;
        /** The rules by persons, of each the feels first; turnStart tells where each part begins. */
        final int[] turns = new int[MOST_RULES];
        final int[] turnStart = new int[2 * MOST + 1];

        Story() {
            for (int i = 0; i < MOST_RULES; i++) {
                rules[i] = new Rule();
            }
            for (int i = 0; i < MOST_CLAIMS; i++) {
                claims[i] = new Claim();
            }
        }

        void clear() {
            Arrays.fill(counts, 0);
            Arrays.fill(doorsOf, 0);
            told.clear();
            codeLength = 0;
        }

        boolean there(int sort, int number) {
            return number >= 0 && number < counts[sort];
        }

        boolean full(int sort) {
            return counts[sort] >= MOST_OF[sort];
        }

        int statements() {
            int all = 0;
            for (int sort = 0; sort < SORTS; sort++) {
                all += counts[sort];
            }
            return all;
        }

        /** Gives the next one of a sort its name; it counts when its statement is whole. */
        void giveName(int sort, int name) {
            if (counts[sort] < MOST) {
                names[sort * MOST + counts[sort]] = name;
            }
        }

        int named(int sort, int name) {
            for (int i = 0; i < counts[sort] && i < MOST; i++) {
                if (names[sort * MOST + i] == name) {
                    return i;
                }
            }
            return NONE;
        }

        boolean hasName(int name) {
            return named(ROOMS, name) != NONE || named(PERSONS, name) != NONE
                || named(THINGS, name) != NONE;
        }

        int nameLetter(int sort, int which, int k) {
            if (!there(sort, which) || which >= MOST || k < 0 || k >= LETTERS) {
                return NONE;
            }
            int name = names[sort * MOST + which];
            int length = 0;
            for (int i = 0; i < LETTERS; i++) {
                length += (name >>> (i * LETTER_BITS)) == 0 ? 0 : 1;
            }
            if (k >= length) {
                return NONE;
            }
            return 'a' - 1 + ((name >>> ((length - 1 - k) * LETTER_BITS)) & LETTER_MASK);
        }

        boolean doorBetween(int room, int other) {
            return room >= 0 && room < MOST && other >= 0 && other < MOST
                && (doorsOf[room] & (1 << other)) != 0;
        }

        void addDoor(int room, int other) {
            if (room >= 0 && room < MOST && other >= 0 && other < MOST) {
                doorsOf[room] |= 1 << other;
                doorsOf[other] |= 1 << room;
            }
        }

        /** Adds a step to the code; answers where it stands. */
        int emit(int token, int of) {
            if (codeLength < code.length) {
                code[codeLength] = token | (of << TOKEN_BITS);
                codeLength++;
            }
            return codeLength - 1;
        }

        /** Lets a step that may skip what follows it lead to the code's end as it is. */
        void leadHere(int step) {
            if (step >= 0 && step < codeLength) {
                code[step] = (code[step] & TOKEN_MASK) | (codeLength << TOKEN_BITS);
            }
        }

        /** The room beside by which one goes on; NONE if one is there, or there is no way. */
        int wayOn(int room, int to) {
            return room < 0 || room >= MOST || to < 0 || to >= MOST ? NONE : way[room * MOST + to];
        }

        /** What follows from a text that is whole: the ways, and whose turn has which rules. */
        void settle() {
            measure();
            for (int room = 0; room < MOST; room++) {
                for (int to = 0; to < MOST; to++) {
                    way[room * MOST + to] = room == to ? NONE : besideTowards(room, to);
                }
            }
            int filled = 0;
            for (int person = 0; person < MOST; person++) {
                turnStart[2 * person] = filled;
                filled = fillTurns(person, true, filled);
                turnStart[2 * person + 1] = filled;
                filled = fillTurns(person, false, filled);
            }
            turnStart[2 * MOST] = filled;
        }

        private int fillTurns(int person, boolean feels, int from) {
            int filled = from;
            for (int rule = 0; rule < counts[RULES]; rule++) {
                if (rules[rule].who == person && (rules[rule].kind == FEEL) == feels
                    && filled < turns.length) {
                    turns[filled] = rule;
                    filled++;
                }
            }
            return filled;
        }

        /** How many doors lead from each room to each; MOST where there is no way. */
        private void measure() {
            for (int room = 0; room < MOST; room++) {
                for (int to = 0; to < MOST; to++) {
                    int near = doorBetween(room, to) ? 1 : MOST;
                    far[room * MOST + to] = room == to ? 0 : near;
                }
            }
            for (int by = 0; by < MOST; by++) {
                for (int room = 0; room < MOST; room++) {
                    for (int to = 0; to < MOST; to++) {
                        far[room * MOST + to] = Math.min(far[room * MOST + to],
                            far[room * MOST + by] + far[by * MOST + to]);
                    }
                }
            }
        }

        private int besideTowards(int room, int to) {
            int best = NONE;
            int fewest = MOST;
            for (int beside = 0; beside < MOST; beside++) {
                if (doorBetween(room, beside) && far[beside * MOST + to] < fewest) {
                    best = beside;
                    fewest = far[beside * MOST + to];
                }
            }
            return best;
        }
    }

    /**
     * Reads a text into a story, token by token. The first fault stays; behind it the token is
     * BROKEN, which nothing takes, so that all that is open ends.
     */
    private static final class Reader {
        private final int[] own = new int[OWN_COUNT];
        private final byte[] tape;
        private int length;
        private int at;
        private Story story;
        private int token;
        private int start;
        private int value;
        private int open;
        int fault;
        int place;

        Reader(byte[] from, Story into) {
            tape = from;
            story = into;
            place = NONE;
            int word = 0;
            for (int i = 0; i < OWN_WORDS.length(); i++) {
                char c = OWN_WORDS.charAt(i);
                if (c == ' ') {
                    word++;
                } else if (word < OWN_COUNT) {
                    own[word] = (own[word] << LETTER_BITS) + c - 'a' + 1;
                }
            }
        }

        boolean reads(int bytes, Story into) {
            length = Math.min(bytes, tape.length);
            story = into;
            story.clear();
            fault = 0;
            place = NONE;
            at = 0;
            open = 0;
            step();
            for (int i = 0; i < TAPE && fault == 0 && token != END; i++) {
                int sort = sortTold();
                if (sort == NONE || story.full(sort)) {
                    fail(sort == NONE ? FAULT_TEXT : FAULT_MANY, start);
                    return false;
                }
                int next = story.counts[sort];
                switch (sort) {
                    case ROOMS:
                        step();
                        given(ROOMS);
                        break;
                    case DOORS:
                        door();
                        break;
                    case PERSONS:
                        beginsIn(PERSONS, story.told.rooms);
                        break;
                    case THINGS:
                        beginsIn(THINGS, story.told.places);
                        break;
                    case CLAIMS:
                        claimed(story.claims[next]);
                        break;
                    default:
                        ruled(story.rules[next]);
                        break;
                }
                expect(';');
                story.counts[sort] = next + 1;
            }
            if (fault == 0) {
                story.settle();
            }
            return fault == 0;
        }

        /** Of which sort the statement is that begins here. */
        private int sortTold() {
            switch (token) {
                case ROOM:
                    return ROOMS;
                case DOOR:
                    return DOORS;
                case WHO:
                    return PERSONS;
                case THING:
                    return THINGS;
                case SAYS:
                    return CLAIMS;
                case GO:
                case TAKE:
                case LAY:
                case WIPE:
                case FEEL:
                case KILL:
                    return RULES;
                default:
                    return NONE;
            }
        }

        private void door() {
            step();
            int room = asked(ROOMS, NONE);
            int other = NONE;
            if (token == NAME && story.doorBetween(room, story.named(ROOMS, value))) {
                fail(FAULT_GIVEN, start);
            } else {
                other = asked(ROOMS, room);
            }
            story.addDoor(room, other);
        }

        private void beginsIn(int sort, int[] rooms) {
            step();
            given(sort);
            expect(IN);
            int room = asked(ROOMS, NONE);
            int which = story.counts[sort];
            if (room != NONE && which < rooms.length) {
                rooms[which] = room;
            }
        }

        private void claimed(Claim claim) {
            step();
            claim.who = asked(PERSONS, NONE);
            claim.room = asked(ROOMS, NONE);
            claim.from = minuteFrom(0);
            claim.to = minuteFrom(claim.from);
        }

        private void ruled(Rule rule) {
            rule.kind = token;
            step();
            rule.who = asked(PERSONS, NONE);
            rule.what = NONE;
            rule.victim = NONE;
            rule.sumFrom = story.codeLength;
            switch (rule.kind) {
                case GO:
                    rule.what = asked(ROOMS, NONE);
                    break;
                case TAKE:
                case LAY:
                    rule.what = asked(THINGS, NONE);
                    break;
                case FEEL:
                    sum();
                    break;
                case KILL:
                    rule.victim = asked(PERSONS, rule.who);
                    rule.what = asked(THINGS, NONE);
                    break;
                default:
                    break;
            }
            expect(WHEN);
            rule.testFrom = story.codeLength;
            test();
            rule.testTo = story.codeLength;
        }

        private void test() {
            both();
            for (int i = 0; i < TAPE && token == OR; i++) {
                int skip = story.emit(OR, 0);
                step();
                both();
                story.leadHere(skip);
            }
        }

        private void both() {
            fact();
            for (int i = 0; i < TAPE && token == AND; i++) {
                int skip = story.emit(AND, 0);
                step();
                fact();
                story.leadHere(skip);
            }
        }

        private void fact() {
            boolean turned = false;
            for (int i = 0; i < TAPE && token == NOT; i++) {
                turned = !turned;
                step();
            }
            if (token >= ALL && token <= KNOWS) {
                simpleFact();
            } else if (token == '[') {
                if (opens('[')) {
                    test();
                    expect(']');
                    open--;
                }
            } else {
                sum();
                int sign = token;
                if (sign != '<' && sign != '>' && sign != '=') {
                    fail(FAULT_TEXT, start);
                }
                step();
                sum();
                story.emit(sign, 0);
            }
            if (turned) {
                story.emit(NOT, 0);
            }
        }

        private void simpleFact() {
            int kind = token;
            step();
            int first = kind == ALL ? 0 : asked(PERSONS, NONE);
            int second = 0;
            switch (kind) {
                case AT:
                    second = asked(ROOMS, NONE);
                    break;
                case HAS:
                    second = asked(THINGS, NONE);
                    break;
                case NEAR:
                case KNOWS:
                    second = asked(PERSONS, first);
                    break;
                default:
                    break;
            }
            story.emit(kind, first | (second << WHICH_BITS));
        }

        private void sum() {
            product();
            for (int i = 0; i < TAPE && (token == '+' || token == '-'); i++) {
                int sign = token;
                step();
                product();
                story.emit(sign, 0);
            }
        }

        private void product() {
            part();
            for (int i = 0; i < TAPE && (token == '*' || token == '/' || token == '%'); i++) {
                int sign = token;
                step();
                part();
                story.emit(sign, 0);
            }
        }

        private void part() {
            if (token == NUMBER) {
                story.emit(NUMBER, value);
                step();
            } else if (token == MINUTE) {
                story.emit(MINUTE, 0);
                step();
            } else if (token == MOOD) {
                step();
                story.emit(MOOD, asked(PERSONS, NONE));
            } else if (token == MIN || token == MAX) {
                pair();
            } else if (opens('(')) {
                sum();
                expect(')');
                open--;
            }
        }

        private void pair() {
            int kind = token;
            step();
            if (opens('(')) {
                sum();
                expect(',');
                sum();
                expect(')');
                open--;
                story.emit(kind, 0);
            }
        }

        private boolean opens(int sign) {
            if (token != sign) {
                fail(FAULT_TEXT, start);
                return false;
            }
            if (open >= DEEPEST) {
                fail(FAULT_MANY, start);
                return false;
            }
            open++;
            step();
            return true;
        }

        private void expect(int wanted) {
            if (token == wanted) {
                step();
            } else {
                fail(FAULT_TEXT, start);
            }
        }

        /** A name to be given. */
        private void given(int sort) {
            if (token != NAME) {
                fail(FAULT_TEXT, start);
            } else if (story.hasName(value)) {
                fail(FAULT_GIVEN, start);
            } else {
                story.giveName(sort, value);
                step();
            }
        }

        /** The number of what is named here, which must be another one than told; NONE with a fault. */
        private int asked(int sort, int unlike) {
            if (token != NAME) {
                fail(FAULT_TEXT, start);
                return NONE;
            }
            int which = story.named(sort, value);
            if (which == NONE || which == unlike) {
                fail(FAULT_ASKED, start);
                return NONE;
            }
            step();
            return which;
        }

        private int minuteFrom(int least) {
            if (token != NUMBER) {
                fail(FAULT_TEXT, start);
                return 0;
            }
            int minute = value;
            if (minute < least || minute >= MINUTES) {
                fail(FAULT_NUMBER, start);
                return 0;
            }
            step();
            return minute;
        }

        /**
         * Goes on to the next token. All that is asked of the present one is asked before. Whether
         * a blank lacks is seen at the first byte, and so ahead of a letter or digit too many.
         */
        private void step() {
            if (fault != 0) {
                return;
            }
            int behind = at;
            int before = signAt(at - 1);
            while (at < length && (tape[at] == ' ' || tape[at] == '\n')) {
                at++;
            }
            start = at;
            value = 0;
            int sign = signAt(at);
            if (sign == NONE) {
                token = END;
            } else if (sign != LETTER && sign != DIGIT) {
                token = sign;
                at++;
            } else if (start == behind && (before == LETTER || before == DIGIT)) {
                fail(FAULT_TEXT, start);
            } else {
                int most = sign == LETTER ? LETTERS : DIGITS;
                for (; at < length && signAt(at) == sign; at++) {
                    if (at - start >= most) {
                        fail(FAULT_TEXT, at);
                        return;
                    }
                    value = sign == LETTER
                        ? (value << LETTER_BITS) + tape[at] - 'a' + 1 : value * 10 + tape[at] - '0';
                }
                token = sign == LETTER ? wordToken() : NUMBER;
            }
        }

        /** The byte there, LETTER for every letter, DIGIT for every digit; NONE behind the end. */
        private int signAt(int i) {
            if (i < 0 || i >= length || i >= tape.length) {
                return NONE;
            }
            if (tape[i] >= 'a' && tape[i] <= 'z') {
                return LETTER;
            }
            return tape[i] >= '0' && tape[i] <= '9' ? DIGIT : tape[i] & 255;
        }

        private int wordToken() {
            for (int word = 0; word < OWN_COUNT; word++) {
                if (own[word] == value) {
                    return ROOM + word;
                }
            }
            return NAME;
        }

        private void fail(int kind, int where) {
            if (fault == 0) {
                fault = kind;
                place = where;
            }
            token = BROKEN;
        }
    }

    /** How the house stands at a moment of an evening. */
    private static final class Scene {
        final int[] roomOf = new int[MOST];
        /** The room in which a thing lies, or CARRIED and who carries it. */
        final int[] placeOf = new int[MOST];
        final int[] moodOf = new int[MOST];
        /** Of each room the bits of those alive in it. */
        final int[] livingIn = new int[MOST];
        final int[] knownSince = new int[MOST * MOST];
        private final int[] stack = new int[STACK];
        int minute;
        private int living;
        /** Bits of the rooms with a trace that is not wiped. */
        private int unwiped;

        void open(Breakfast breakfast, int persons) {
            minute = 0;
            living = (1 << persons) - 1;
            unwiped = 0;
            Arrays.fill(livingIn, 0);
            Arrays.fill(moodOf, 0);
            Arrays.fill(knownSince, NONE);
            for (int i = 0; i < MOST; i++) {
                roomOf[i] = breakfast.rooms[i];
                placeOf[i] = breakfast.places[i];
            }
            for (int person = 0; person < persons; person++) {
                livingIn[roomOf[person]] |= 1 << person;
            }
        }

        boolean lives(int person) {
            return (living & (1 << person)) != 0;
        }

        void feel(int person, int more) {
            moodOf[person] = within((long) moodOf[person] + more);
        }

        /** Works off a stretch of code: its number, or 1 or 0 of a test. */
        int worth(int[] code, int from, int to) {
            int top = NONE;
            int at = from;
            for (int i = 0; i < TAPE && at >= 0 && at < to && at < code.length; i++) {
                int kind = code[at] & TOKEN_MASK;
                int of = code[at] >>> TOKEN_BITS;
                at++;
                if (kind == OR || kind == AND) {
                    if (top >= 0 && (stack[top] != 0) == (kind == OR)) {
                        at = of;
                    } else {
                        top = Math.max(top - 1, NONE);
                    }
                } else if (kind == NOT) {
                    if (top >= 0) {
                        stack[top] = 1 - stack[top];
                    }
                } else if (kind < ROOM || kind == MIN || kind == MAX) {
                    if (top >= 1) {
                        stack[top - 1] = joined(kind, stack[top - 1], stack[top]);
                        top--;
                    }
                } else if (top + 1 < stack.length) {
                    top++;
                    stack[top] = found(kind, of);
                }
            }
            return top >= 0 ? stack[top] : 0;
        }

        /** What a step of the code finds in the house. */
        private int found(int kind, int of) {
            int a = of & WHICH_MASK;
            int b = (of >>> WHICH_BITS) & WHICH_MASK;
            switch (kind) {
                case NUMBER:
                    return of;
                case MINUTE:
                    return minute;
                case MOOD:
                    return moodOf[a];
                case AT:
                    return roomOf[a] == b ? 1 : 0;
                case HAS:
                    return placeOf[b] == CARRIED + a ? 1 : 0;
                case NEAR:
                    return lives(a) && lives(b) && roomOf[a] == roomOf[b] ? 1 : 0;
                case ALONE:
                    return (livingIn[roomOf[a]] & ~(1 << a)) == 0 ? 1 : 0;
                case DEAD:
                    return lives(a) ? 0 : 1;
                case KNOWS:
                    return knownSince[a * MOST + b] != NONE ? 1 : 0;
                default:
                    return 1;
            }
        }

        private int joined(int sign, int left, int right) {
            switch (sign) {
                case '+':
                    return within((long) left + right);
                case '-':
                    return within((long) left - right);
                case '*':
                    return within((long) left * right);
                case '/':
                    return right == 0 ? 0 : Math.floorDiv(left, right);
                case '%':
                    return right == 0 ? 0 : Math.floorMod(left, right);
                case '<':
                    return left < right ? 1 : 0;
                case '>':
                    return left > right ? 1 : 0;
                case '=':
                    return left == right ? 1 : 0;
                case MIN:
                    return Math.min(left, right);
                default:
                    return Math.max(left, right);
            }
        }

        private int within(long number) {
            return (int) Math.max(-LIMIT, Math.min(LIMIT, number));
        }

        /** Does what a rule asks, if it can be done. */
        boolean does(Rule rule, Story story) {
            int who = rule.who;
            if (who < 0 || who >= MOST) {
                return false;
            }
            int here = roomOf[who];
            switch (rule.kind) {
                case GO:
                    return goes(who, story.wayOn(here, rule.what));
                case TAKE:
                    return moves(rule.what, here, CARRIED + who, here);
                case LAY:
                    return moves(rule.what, CARRIED + who, here, here);
                case WIPE:
                    return wipes(here);
                default:
                    return kills(who, rule.victim, rule.what);
            }
        }

        private boolean goes(int who, int to) {
            if (to < 0 || to >= MOST) {
                return false;
            }
            livingIn[roomOf[who]] &= ~(1 << who);
            roomOf[who] = to;
            livingIn[to] |= 1 << who;
            return true;
        }

        private boolean moves(int thing, int from, int to, int room) {
            if (thing < 0 || thing >= MOST || placeOf[thing] != from) {
                return false;
            }
            placeOf[thing] = to;
            unwiped |= 1 << room;
            return true;
        }

        private boolean wipes(int room) {
            boolean traced = (unwiped & (1 << room)) != 0;
            unwiped &= ~(1 << room);
            return traced;
        }

        private boolean kills(int who, int victim, int thing) {
            int here = roomOf[who];
            if (thing < 0 || thing >= MOST || placeOf[thing] != CARRIED + who
                || livingIn[here] != ((1 << who) | (1 << victim))) {
                return false;
            }
            living &= ~(1 << victim);
            livingIn[here] &= ~(1 << victim);
            for (int i = 0; i < MOST; i++) {
                placeOf[i] = placeOf[i] == CARRIED + victim ? here : placeOf[i];
            }
            unwiped |= 1 << here;
            return true;
        }

        /** At a minute's end all who see one dead know it. */
        void learn(int persons) {
            for (int other = 0; other < persons; other++) {
                int seeing = lives(other) ? 0 : livingIn[roomOf[other]];
                for (int person = 0; person < persons; person++) {
                    int pair = person * MOST + other;
                    if ((seeing & (1 << person)) != 0 && knownSince[pair] == NONE) {
                        knownSince[pair] = minute;
                    }
                }
            }
        }
    }

    /** What is kept of an evening for those who ask later; a trial's diary keeps nothing. */
    private static final class Diary {
        private final boolean kept;
        private final int[] done;
        private final int[] moods;
        /** A nibble for each thing. */
        private final int[] places;
        private final int[] traces;
        int traceCount;

        Diary(boolean keep) {
            kept = keep;
            int slots = keep ? MOST * MINUTES : 0;
            done = new int[slots];
            moods = new int[slots];
            traces = new int[slots];
            places = new int[keep ? MINUTES : 0];
        }

        void forget() {
            traceCount = 0;
            Arrays.fill(done, NONE);
        }

        void noteDone(Scene scene, Rule rule, int number) {
            int slot = scene.minute * MOST + rule.who;
            if (!kept || slot < 0 || slot >= done.length) {
                return;
            }
            done[slot] = number;
            switch (rule.kind) {
                case TAKE:
                    noteTrace(scene, 1, rule);
                    break;
                case LAY:
                    noteTrace(scene, 2, rule);
                    break;
                case KILL:
                    noteTrace(scene, 3, rule);
                    break;
                case WIPE:
                    noteWiped(scene.roomOf[rule.who], scene.minute);
                    break;
                default:
                    break;
            }
        }

        private void noteTrace(Scene scene, int kind, Rule rule) {
            if (traceCount < traces.length) {
                traces[traceCount] = scene.minute | (kind << TRACE_SHIFT[TRACE_KIND])
                    | (rule.what << TRACE_SHIFT[TRACE_THING])
                    | (rule.who << TRACE_SHIFT[TRACE_WHO])
                    | (scene.roomOf[rule.who] << TRACE_SHIFT[TRACE_ROOM]);
                traceCount++;
            }
        }

        /** The minute of the wiping, one greater, stands above the room: 0 tells of none. */
        private void noteWiped(int room, int minute) {
            for (int k = 0; k < traceCount && k < traces.length; k++) {
                if (traces[k] >>> TRACE_SHIFT[TRACE_ROOM] == room) {
                    traces[k] |= (minute + 1) << TRACE_SHIFT[TRACE_WIPED];
                }
            }
        }

        void noteMinute(Scene scene) {
            int minute = scene.minute;
            if (!kept || minute < 0 || minute >= places.length) {
                return;
            }
            places[minute] = 0;
            for (int i = 0; i < MOST; i++) {
                moods[minute * MOST + i] = scene.moodOf[i];
                places[minute] |= scene.placeOf[i] << (i * NIBBLE_BITS);
            }
        }

        int tracePart(int k, int what) {
            if (k < 0 || k >= traceCount || what < 0 || what > TRACE_WIPED) {
                return NONE;
            }
            int part = (traces[k] >>> TRACE_SHIFT[what]) & TRACE_MASK[what];
            return what == TRACE_WIPED ? part - 1 : part;
        }

        int placeThen(int thing, int minute) {
            return minute >= 0 && minute < places.length
                ? (places[minute] >>> (thing * NIBBLE_BITS)) & NIBBLE : 0;
        }

        int doneThen(int person, int minute) {
            int slot = minute * MOST + person;
            return slot >= 0 && slot < done.length ? done[slot] : NONE;
        }

        int moodThen(int person, int minute) {
            int slot = minute * MOST + person;
            return slot >= 0 && slot < moods.length ? moods[slot] : NO_MOOD;
        }
    }

    /** An evening, let go minute by minute. */
    private static final class Evening {
        final Scene scene = new Scene();
        final Diary diary;
        /** The breakfast as it was when the evening was let go. */
        final Breakfast breakfast = new Breakfast();
        /** Of each minute's end a nibble for each person: its room. */
        private final int[] rooms = new int[MINUTES];
        /** Of each minute's end a byte for each room: the bits of those alive in it. */
        private final long[] company = new long[MINUTES];
        private final int[] deeds = new int[MOST * DEED];
        int deedCount;
        /** How many minutes it has; 0 if there is no evening. */
        int minutes;

        Evening(boolean kept) {
            diary = new Diary(kept);
        }

        void forget() {
            minutes = 0;
            deedCount = 0;
            diary.forget();
        }

        /** Lets an evening go; it breaks off, and is of no use then, with more than so many deeds. */
        void pass(Story story, Breakfast as, int n, int mostDeeds) {
            int persons = story.counts[PERSONS];
            forget();
            minutes = Math.min(n, MINUTES);
            breakfast.copy(as);
            scene.open(as, persons);
            for (int minute = 0; minute < minutes && deedCount <= mostDeeds; minute++) {
                scene.minute = minute;
                for (int person = 0; person < persons; person++) {
                    if (scene.lives(person)) {
                        turn(story, person);
                    }
                }
                scene.learn(persons);
                noteMinute(minute);
            }
        }

        private void turn(Story story, int person) {
            int middle = story.turnStart[2 * person + 1];
            int end = story.turnStart[2 * person + 2];
            for (int i = story.turnStart[2 * person]; i < middle; i++) {
                Rule rule = story.rules[story.turns[i]];
                if (!breakfast.leavesOut(story.turns[i])
                    && scene.worth(story.code, rule.testFrom, rule.testTo) != 0) {
                    scene.feel(person, scene.worth(story.code, rule.sumFrom, rule.testFrom));
                }
            }
            for (int i = middle; i < end; i++) {
                Rule rule = story.rules[story.turns[i]];
                if (!breakfast.leavesOut(story.turns[i])
                    && scene.worth(story.code, rule.testFrom, rule.testTo) != 0
                    && scene.does(rule, story)) {
                    noteDone(rule, story.turns[i]);
                    return;
                }
            }
        }

        private void noteDone(Rule rule, int number) {
            diary.noteDone(scene, rule, number);
            if (rule.kind == KILL && deedCount < MOST) {
                int at = deedCount * DEED;
                deeds[at] = rule.who;
                deeds[at + 1] = rule.victim;
                deeds[at + 2] = rule.what;
                deeds[at + 3] = scene.minute;
                deeds[at + 4] = scene.roomOf[rule.who];
                deeds[at + 5] = number;
                deedCount++;
            }
        }

        private void noteMinute(int minute) {
            rooms[minute] = 0;
            company[minute] = 0;
            for (int i = 0; i < MOST; i++) {
                rooms[minute] |= scene.roomOf[i] << (i * NIBBLE_BITS);
                company[minute] |= (long) scene.livingIn[i] << (i * MOST);
            }
            diary.noteMinute(scene);
        }

        boolean had(int minute) {
            return minute >= 0 && minute < minutes;
        }

        int deedPart(int k, int what) {
            int at = k * DEED + what;
            return at >= 0 && at < deeds.length ? deeds[at] : NONE;
        }

        boolean hasDeed(int killer, int victim) {
            for (int k = 0; k < deedCount; k++) {
                if (deedPart(k, 0) == killer && deedPart(k, 1) == victim) {
                    return true;
                }
            }
            return false;
        }

        int roomThen(int person, int minute) {
            return minute < 0 || minute >= MINUTES
                ? 0 : (rooms[minute] >>> (person * NIBBLE_BITS)) & NIBBLE;
        }

        /** The bits of those alive at a minute's end in the room in which a person is. */
        private int companyThen(int person, int minute) {
            return minute < 0 || minute >= MINUTES
                ? 0 : (int) (company[minute] >>> (roomThen(person, minute) * MOST)) & 255;
        }

        boolean livedThen(int person, int minute) {
            return (companyThen(person, minute) & (1 << person)) != 0;
        }

        /** The bits of those who saw a person in a minute. */
        int witnesses(int person, int minute) {
            return companyThen(person, minute) & ~(1 << person);
        }

        int livingLast(int persons) {
            int living = 0;
            for (int person = 0; person < persons; person++) {
                living |= livedThen(person, minutes - 1) ? 1 << person : 0;
            }
            return living;
        }
    }

    /** What can be known of a victim by asking. */
    private static final class Finder {
        /** Of each minute a byte for each person: the bits of those who, asked, clear it then. */
        private final long[] clearing = new long[MINUTES];
        /** Of each minute the bits of those who saw the victim. */
        private final int[] watching = new int[MINUTES];
        private int minutes;
        private int persons;
        private int victim;
        /** The minute in which the victim died. */
        private int died;
        int living;
        int spanFirst;
        int spanLast;

        void look(Evening evening, int people, int dead) {
            minutes = Math.min(evening.minutes, MINUTES);
            persons = people;
            victim = dead;
            living = evening.livingLast(people);
            int room = evening.roomThen(dead, minutes - 1);
            died = 0;
            for (int minute = 0; minute < minutes; minute++) {
                watching[minute] = evening.witnesses(dead, minute);
                died += evening.livedThen(dead, minute) ? 1 : 0;
                clearing[minute] = 0;
                for (int person = 0; person < people; person++) {
                    if (evening.roomThen(person, minute) != room || !evening.livedThen(person, minute)) {
                        clearing[minute] |= (long) evening.witnesses(person, minute) << (person * MOST);
                    }
                }
            }
        }

        void setSpan(int set) {
            int asked = set & living;
            spanFirst = 0;
            for (int minute = died - 1; minute >= 0 && spanFirst == 0; minute--) {
                spanFirst = (watching[minute] & asked) != 0 ? minute + 1 : 0;
            }
            spanLast = died;
            for (int m = died; m < minutes - 1 && (watching[m] & asked) == 0; m++) {
                spanLast = m + 1;
            }
        }

        /** The bits of those who could have done it, by what the set tells. */
        int suspects(int set) {
            setSpan(set);
            int suspects = 0;
            for (int person = 0; person < persons; person++) {
                if (person != victim && !cleared(person, set & living)) {
                    suspects |= 1 << person;
                }
            }
            return suspects;
        }

        private boolean cleared(int person, int asked) {
            for (int minute = spanFirst; minute <= spanLast; minute++) {
                if (((clearing[minute] >>> (person * MOST)) & asked) == 0) {
                    return false;
                }
            }
            return true;
        }

        boolean known(int set) {
            return Integer.bitCount(suspects(set)) == 1;
        }

        /** The least set by which it is known; NONE if all who live do not suffice: more never harm. */
        int fewest() {
            if (!known(living)) {
                return NONE;
            }
            int best = living;
            for (int set = 0; set < (1 << persons); set++) {
                boolean some = (set & ~living) == 0;
                if (some && Integer.bitCount(set) < Integer.bitCount(best) && known(set)) {
                    best = set;
                }
            }
            return best;
        }
    }

    /** Evenings that would have been, but for a change; what is sought is kept until the next one. */
    private static final class Changes {
        private final Evening trial = new Evening(false);
        private final Breakfast changed = new Breakfast();
        final int[] sparing = new int[3];
        final int[] fairest = new int[4];
        private boolean sparingSought;
        private boolean fairestSought;

        void forget() {
            sparingSought = false;
            fairestSought = false;
        }

        /** Whether without a rule there is a deed of the same killer on the same victim. */
        boolean killsWithout(Story story, Evening evening, int rule, int k) {
            changed.change(evening.breakfast, CHANGED_RULE, rule, NONE);
            trial.pass(story, changed, evening.minutes, MOST);
            return trial.hasDeed(evening.deedPart(k, 0), evening.deedPart(k, 1));
        }

        void seekSparing(Story story, Evening evening) {
            if (sparingSought) {
                return;
            }
            sparingSought = true;
            Arrays.fill(sparing, NONE);
            for (int sort = CHANGED_RULE; sort <= CHANGED_THING; sort++) {
                int rooms = sort == CHANGED_RULE ? 1 : story.counts[ROOMS];
                for (int number = 0; number < changeable(story, sort); number++) {
                    for (int room = 0; room < rooms; room++) {
                        changed.change(evening.breakfast, sort, number, room);
                        trial.pass(story, changed, evening.minutes, 0);
                        if (trial.deedCount == 0) {
                            sparing[0] = sort;
                            sparing[1] = number;
                            sparing[2] = sort == CHANGED_RULE ? NONE : room;
                            return;
                        }
                    }
                }
            }
        }

        void seekFairest(Story story, Evening evening, Finder finder) {
            if (fairestSought) {
                return;
            }
            fairestSought = true;
            Arrays.fill(fairest, NONE);
            for (int sort = CHANGED_PERSON; sort <= CHANGED_THING; sort++) {
                for (int number = 0; number < changeable(story, sort); number++) {
                    for (int room = 0; room < story.counts[ROOMS]; room++) {
                        changed.change(evening.breakfast, sort, number, room);
                        trial.pass(story, changed, evening.minutes, 1);
                        int least = leastToAsk(story, finder);
                        if (least > fairest[3]) {
                            fairest[0] = sort;
                            fairest[1] = number;
                            fairest[2] = room;
                            fairest[3] = least;
                        }
                    }
                }
            }
        }

        /** How many there are of what a sort of changes is of. */
        private int changeable(Story story, int sort) {
            switch (sort) {
                case CHANGED_RULE:
                    return story.counts[RULES];
                case CHANGED_PERSON:
                    return story.counts[PERSONS];
                default:
                    return story.counts[THINGS];
            }
        }

        /** How many must be asked after the trial evening; NONE if it is not a fair one of one deed. */
        private int leastToAsk(Story story, Finder finder) {
            if (trial.deedCount != 1) {
                return NONE;
            }
            finder.look(trial, story.counts[PERSONS], trial.deedPart(0, 1));
            int fewest = finder.fewest();
            return fewest == NONE ? NONE : Integer.bitCount(fewest);
        }
    }
}
