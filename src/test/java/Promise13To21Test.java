/** Promises 13 to 21: what is asked of an evening, minute by minute, deed by deed, trace by trace. */
public final class Promise13To21Test {
    private static final Kit KIT = new Kit();
    /** Ann fetches the knife, goes to Bob, kills him in minute 3, wipes, and lays the knife down. */
    private static final String MURDER = "room hall;room lib;room din;door hall lib;door lib din;who ann in hall;"
        + "who bob in din;thing knife in lib;take ann knife when all;go ann lib when not has ann knife;"
        + "go ann din when has ann knife;kill ann bob knife when all;wipe ann when dead bob;"
        + "lay ann knife when dead bob;feel bob 2 when all;feel ann 0-1 when dead bob;";
    /** p kills q in minute 1; r comes in minute 3, p goes in minute 4. */
    private static final String WITNESS = "room a;room b;door a b;who p in a;who q in a;who r in b;thing k in a;"
        + "take p k when all;kill p q k when all;go r a when minute=3;go p b when minute=4;go r b when minute=6;"
        + "go r a when minute=7;";
    private static final int[] NO_MINUTE = {-1, 8, 9, 180, Integer.MIN_VALUE, Integer.MAX_VALUE};
    private static final int[] NO_PERSON = {-1, 2, 3, 8, Integer.MIN_VALUE, Integer.MAX_VALUE};
    private static final int[] NO_THING = {-1, 1, 2, 8, 100, Integer.MIN_VALUE, Integer.MAX_VALUE};
    private static final int NO_MOOD = -2000000000;

    public static void main(String[] args) throws Exception {
        KIT.cases(Promise13To21Test.class);
        KIT.close();
    }

    private static SnowHouse murder() {
        return Kit.ran(MURDER, 8);
    }

    // ---- promise 13: was

    static void promise13_was_atTheEndOfEachMinute() {
        SnowHouse x = murder();
        KIT.row("ann", m -> x.was(0, m), 1, 1, 2, 2, 2, 2, 2, 2);
        KIT.row("bob", m -> x.was(1, m), 2, 2, 2, 2, 2, 2, 2, 2);
    }

    static void promise13_was_theDeadToo() {
        KIT.due("bob", murder().was(1, 7), 2);
    }

    static void promise13_was_noSuchMinute_isNone() {
        for (int minute : NO_MINUTE) {
            KIT.due("was(0, " + minute + ")", murder().was(0, minute), -1);
        }
    }

    static void promise13_was_noSuchPerson_isNone() {
        for (int person : NO_PERSON) {
            KIT.due("was(" + person + ", 0)", murder().was(person, 0), -1);
        }
    }

    static void promise13_was_theLastOf180Minutes() {
        SnowHouse x = Kit.ran(MURDER, 180);
        KIT.due("was", x.was(0, 179), 2);
        KIT.due("behind it", x.was(0, 180), -1);
    }

    static void promise13_was_theEighthOfEightInTheEighthRoom() {
        SnowHouse x = Kit.ran(Kit.many("room r#;", 8) + Kit.many("who p# in r#;", 8), 1);
        KIT.row("was", p -> x.was(p, 0), 0, 1, 2, 3, 4, 5, 6, 7, -1);
    }

    // ---- promise 14: alive

    static void promise14_alive_untilTheMinuteOfTheDeed() {
        SnowHouse x = murder();
        KIT.row("bob", m -> x.alive(1, m), 1, 1, 1, 0, 0, 0, 0, 0);
        KIT.row("ann", m -> x.alive(0, m), 1, 1, 1, 1, 1, 1, 1, 1);
    }

    static void promise14_alive_noSuchMinute_isNone() {
        for (int minute : NO_MINUTE) {
            KIT.due("alive(0, " + minute + ")", murder().alive(0, minute), -1);
            KIT.due("alive(1, " + minute + ")", murder().alive(1, minute), -1);
        }
    }

    static void promise14_alive_noSuchPerson_isNone() {
        for (int person : NO_PERSON) {
            KIT.due("alive(" + person + ", 0)", murder().alive(person, 0), -1);
        }
    }

    // ---- promise 15: where

    static void promise15_where_theRoomOr100AndWhoCarriesIt() {
        SnowHouse x = murder();
        KIT.row("knife", m -> x.where(0, m), 1, 100, 100, 100, 100, 2, 100, 100);
    }

    static void promise15_where_carriedByTheFirstAndTheEighth() {
        SnowHouse x = Kit.ran("room a;" + Kit.many("who p# in a;thing t# in a;take p# t# when all;", 8), 1);
        KIT.row("where", t -> x.where(t, 0), 100, 101, 102, 103, 104, 105, 106, 107, -1);
    }

    static void promise15_where_inTheFirstAndTheEighthRoom() {
        SnowHouse x = Kit.ran(Kit.many("room r#;thing t# in r#;", 8), 1);
        KIT.row("where", t -> x.where(t, 0), 0, 1, 2, 3, 4, 5, 6, 7, -1);
    }

    static void promise15_where_noSuchMinute_isNone() {
        for (int minute : NO_MINUTE) {
            KIT.due("where(0, " + minute + ")", murder().where(0, minute), -1);
        }
    }

    static void promise15_where_noSuchThing_isNone() {
        for (int thing : NO_THING) {
            KIT.due("where(" + thing + ", 0)", murder().where(thing, 0), -1);
        }
    }

    // ---- promise 16: did

    static void promise16_did_theRuleOfEachMinute() {
        SnowHouse x = murder();
        KIT.row("ann", m -> x.did(0, m), 1, 0, 2, 3, 4, 5, 0, 4);
    }

    static void promise16_did_nothing_isNone() {
        SnowHouse x = Kit.ran("room a;who p in a;thing t in a;take p t when minute=1;", 3);
        KIT.row("did", m -> x.did(0, m), -1, 0, -1);
    }

    static void promise16_did_noFeel() {
        SnowHouse x = murder();
        KIT.row("bob", m -> x.did(1, m), -1, -1, -1, -1);
    }

    static void promise16_did_theDead_isNone() {
        SnowHouse x = Kit.ran("room a;room b;door a b;who p in a;who q in a;thing k in a;take p k when all;"
            + "kill p q k when all;take q k when minute=3;go q b when minute>0;", 5);
        KIT.row("did", m -> x.did(1, m), -1, -1, -1, -1, -1);
    }

    static void promise16_did_the30thRule() {
        SnowHouse x = Kit.ran("room a;who p in a;thing t in a;" + Kit.many("wipe p when all;", 29)
            + "take p t when all;", 1);
        KIT.due("did", x.did(0, 0), 29);
    }

    static void promise16_did_noSuchMinute_isNone() {
        for (int minute : NO_MINUTE) {
            KIT.due("did(0, " + minute + ")", murder().did(0, minute), -1);
        }
    }

    static void promise16_did_noSuchPerson_isNone() {
        for (int person : NO_PERSON) {
            KIT.due("did(" + person + ", 1)", murder().did(person, 1), -1);
        }
    }

    // ---- promise 17: mood

    static void promise17_mood_atTheEndOfEachMinute() {
        SnowHouse x = murder();
        KIT.row("ann", m -> x.mood(0, m), 0, 0, 0, 0, -1, -2, -3, -4);
        KIT.row("bob", m -> x.mood(1, m), 2, 4, 6, 6, 6, 6, 6, 6);
    }

    static void promise17_mood_noSuchMinute_isTold() {
        for (int minute : NO_MINUTE) {
            KIT.due("mood(0, " + minute + ")", murder().mood(0, minute), NO_MOOD);
        }
    }

    static void promise17_mood_noSuchPerson_isTold() {
        for (int person : NO_PERSON) {
            KIT.due("mood(" + person + ", 0)", murder().mood(person, 0), NO_MOOD);
        }
    }

    static void promise17_mood_minusOne_isAMoodToo() {
        KIT.due("mood", murder().mood(0, 4), -1);
    }

    static void promise17_mood_ofEightPeople() {
        SnowHouse x = Kit.ran("room a;" + Kit.many("who p# in a;", 8) + "feel ph 9 when all;feel pa 3 when all;", 2);
        KIT.row("mood", p -> x.mood(p, 1), 6, 0, 0, 0, 0, 0, 0, 18, NO_MOOD);
    }

    // ---- promise 18: deed

    static void promise18_deed_itsSixParts() {
        SnowHouse x = murder();
        KIT.row("deed", what -> x.deed(0, what), 0, 1, 0, 3, 2, 3);
    }

    static void promise18_deed_eachPartOfItsOwn() {
        SnowHouse x = Kit.ran("room a;room b;room c;who o in a;who p in c;who q in c;thing s in a;thing t in c;"
            + "wipe o when all;take q t when minute=2;kill q p t when minute=4;", 6);
        KIT.row("deed", what -> x.deed(0, what), 2, 1, 1, 4, 2, 2);
    }

    static void promise18_deed_otherParts_areNone() {
        for (int what : new int[] {-1, 6, 7, Integer.MIN_VALUE, Integer.MAX_VALUE}) {
            KIT.due("deed(0, " + what + ")", murder().deed(0, what), -1);
        }
    }

    static void promise18_deed_noSuchDeed_isNone() {
        for (int k : new int[] {-1, 1, 2, 8, Integer.MIN_VALUE, Integer.MAX_VALUE}) {
            for (int what = 0; what < 6; what++) {
                KIT.due("deed(" + k + ", " + what + ")", murder().deed(k, what), -1);
            }
        }
    }

    static void promise18_deed_otherPartsOfTheSecondAndTheLast_areNone() {
        SnowHouse x = Kit.ran(Promise08To12Test.sevenDeeds(), 20);
        for (int k = 0; k < 7; k++) {
            KIT.due("deed(" + k + ", -1)", x.deed(k, -1), -1);
            KIT.due("deed(" + k + ", 6)", x.deed(k, 6), -1);
        }
        KIT.due("deed(7, -1)", x.deed(7, -1), -1);
        KIT.due("deed(-1, 6)", x.deed(-1, 6), -1);
    }

    static void promise18_deed_anEveningWithoutOne_isNone() {
        KIT.due("deed", Kit.ran(MURDER, 3).deed(0, 0), -1);
    }

    static void promise18_deed_allSeven_asTheyWereDone() {
        SnowHouse x = Kit.ran(Promise08To12Test.sevenDeeds(), 20);
        KIT.row("victims", k -> x.deed(k, 1), 1, 2, 3, 4, 5, 6, 7, -1);
        KIT.row("minutes", k -> x.deed(k, 3), 2, 4, 6, 8, 10, 12, 14, -1);
        KIT.row("rooms", k -> x.deed(k, 4), 1, 2, 3, 4, 5, 6, 7, -1);
        KIT.row("rules", k -> x.deed(k, 5), 1, 2, 3, 4, 5, 6, 7, -1);
    }

    // ---- promise 19: trace

    static void promise19_trace_itsSixParts() {
        SnowHouse x = murder();
        KIT.due("traces", x.has(8), 4);
        KIT.row("take", what -> x.trace(0, what), 1, 1, 0, 0, 1, -1);
        KIT.row("kill", what -> x.trace(1, what), 3, 3, 0, 0, 2, 4);
        KIT.row("lay", what -> x.trace(2, what), 5, 2, 0, 0, 2, 7);
        KIT.row("take", what -> x.trace(3, what), 6, 1, 0, 0, 2, 7);
    }

    static void promise19_trace_otherParts_areNone() {
        for (int what : new int[] {-1, 6, 7, Integer.MIN_VALUE, Integer.MAX_VALUE}) {
            KIT.due("trace(1, " + what + ")", murder().trace(1, what), -1);
        }
    }

    static void promise19_trace_noSuchTrace_isNone() {
        for (int k : new int[] {-1, 4, 5, 1440, Integer.MIN_VALUE, Integer.MAX_VALUE}) {
            for (int what = 0; what < 6; what++) {
                KIT.due("trace(" + k + ", " + what + ")", murder().trace(k, what), -1);
            }
        }
    }

    static void promise19_trace_notWiped_isNone() {
        KIT.due("wiped", Kit.ran(MURDER, 4).trace(1, 5), -1);
    }

    static void promise19_trace_wipedInMinute0AndInMinute179() {
        SnowHouse x = Kit.ran("room a;who p in a;who q in a;thing t in a;take p t when minute=0;"
            + "lay p t when minute=179;wipe q when minute=0 or minute=179;", 180);
        KIT.row("wiped", k -> x.trace(k, 5), 0, 179, -1);
        KIT.row("left", k -> x.trace(k, 0), 0, 179, -1);
    }

    static void promise19_trace_wipedOnce_isNotWipedAgain() {
        SnowHouse x = Kit.ran("room a;who p in a;thing t in a;take p t when minute=0;wipe p when minute=1 or minute=3;"
            + "lay p t when minute=2;", 4);
        KIT.row("wiped", k -> x.trace(k, 5), 1, 3, -1);
    }

    static void promise19_trace_ofTheEighthOfAll() {
        SnowHouse x = Kit.ran(Kit.many("room r#;", 8) + Kit.many("who p# in r#;", 8) + Kit.many("thing t# in r#;", 8)
            + "take ph th when all;wipe ph when all;", 2);
        KIT.row("trace", what -> x.trace(0, what), 0, 1, 7, 7, 7, 1);
    }

    static void promise19_trace_ofEachPersonWithEachThing() {
        for (int shift = 0; shift < 8; shift++) {
            StringBuilder text = new StringBuilder(Kit.many("room r#;", 8)).append(Kit.many("who p# in r#;", 8));
            for (int t = 0; t < 8; t++) {
                char room = (char) ('a' + (t + shift) % 8);
                text.append("thing t").append((char) ('a' + t)).append(" in r").append(room).append(";");
                text.append("take p").append(room).append(" t").append((char) ('a' + t)).append(" when all;");
            }
            SnowHouse x = Kit.ran(text.toString(), 1);
            for (int k = 0; k < 8; k++) {
                KIT.due("kind", x.trace(k, 1), 1);
                KIT.due("thing", x.trace(k, 2), (k - shift + 8) % 8);
                KIT.due("who", x.trace(k, 3), k);
                KIT.due("room", x.trace(k, 4), k);
                KIT.due("wiped", x.trace(k, 5), -1);
            }
        }
    }

    static void promise19_trace_asManyAsThereCanBe() {
        SnowHouse x = Kit.ran(Kit.many("room r#;", 8) + Kit.many("who p# in r#;", 8) + Kit.many("thing t# in r#;", 8)
            + Kit.many("take p# t# when all;lay p# t# when all;", 8), 180);
        KIT.due("traces", x.has(8), 1440);
        KIT.row("the last", what -> x.trace(1439, what), 179, 2, 7, 7, 7, -1);
        KIT.due("behind it", x.trace(1440, 0), -1);
    }

    static void promise19_trace_inTheOrderInWhichTheyWereLeft() {
        SnowHouse x = Kit.ran("room a;who p in a;who q in a;thing t in a;thing u in a;take q u when all;"
            + "take p t when all;lay p t when all;", 2);
        KIT.row("who", k -> x.trace(k, 3), 0, 1, 0, -1);
        KIT.row("minute", k -> x.trace(k, 0), 0, 0, 1, -1);
    }

    // ---- promise 20: saw

    static void promise20_saw_0No1Alive2Dead() {
        SnowHouse x = Kit.ran(WITNESS, 9);
        KIT.row("r saw q", m -> x.saw(2, 1, m), 0, 0, 0, 2, 2, 2, 0, 2, 2);
        KIT.row("p saw q", m -> x.saw(0, 1, m), 1, 2, 2, 2, 0, 0, 0, 0, 0);
        KIT.row("p saw r", m -> x.saw(0, 2, m), 0, 0, 0, 1, 0, 0, 1, 0, 0);
        KIT.row("r saw p", m -> x.saw(2, 0, m), 0, 0, 0, 1, 0, 0, 1, 0, 0);
    }

    static void promise20_saw_theDeadSeeNothing() {
        SnowHouse x = Kit.ran(WITNESS, 9);
        KIT.row("q saw p", m -> x.saw(1, 0, m), 1, 0, 0, 0, 0, 0, 0, 0, 0);
        KIT.row("q saw r", m -> x.saw(1, 2, m), 0, 0, 0, 0, 0, 0, 0, 0, 0);
    }

    static void promise20_saw_twoDeadInOneRoom_seeNothing() {
        SnowHouse x = Kit.ran("room a;room b;door a b;who p in a;who q in a;who r in b;thing k in a;take p k when all;"
            + "kill p q k when all;kill p r k when all;go r a when minute=2;", 6);
        KIT.due("both dead", x.has(7), 2);
        KIT.row("q saw r", m -> x.saw(1, 2, m), 0, 0, 0, 0, 0);
        KIT.row("r saw q", m -> x.saw(2, 1, m), 0, 0, 2, 0, 0);
    }

    static void promise20_saw_nobodySeesItself() {
        SnowHouse x = Kit.ran(WITNESS, 9);
        KIT.row("p", m -> x.saw(0, 0, m), 0, 0, 0);
        KIT.row("q, alive and dead", m -> x.saw(1, 1, m), 0, 0, 0);
    }

    static void promise20_saw_noSuchMinute_isNone() {
        for (int minute : NO_MINUTE) {
            KIT.due("saw(0, 1, " + minute + ")", murder().saw(0, 1, minute), -1);
            KIT.due("saw(0, 0, " + minute + ")", murder().saw(0, 0, minute), -1);
        }
    }

    static void promise20_saw_noSuchPerson_isNone() {
        for (int person : NO_PERSON) {
            KIT.due("saw(" + person + ", 1, 0)", murder().saw(person, 1, 0), -1);
            KIT.due("saw(0, " + person + ", 0)", murder().saw(0, person, 0), -1);
            KIT.due("saw both", murder().saw(person, person, 0), -1);
        }
    }

    static void promise20_saw_allEightInOneRoom() {
        SnowHouse x = Kit.ran(Kit.many("room r#;", 8) + Kit.many("who p# in rh;", 8), 1);
        for (int p = 0; p < 8; p++) {
            for (int q = 0; q < 8; q++) {
                KIT.due("saw(" + p + ", " + q + ", 0)", x.saw(p, q, 0), p == q ? 0 : 1);
            }
        }
    }

    // ---- promise 21: knows

    static void promise21_knows_fromTheFirstMinuteInWhichItSeesItDead() {
        SnowHouse x = Kit.ran(WITNESS, 9);
        KIT.due("the killer", x.knows(0, 1), 1);
        KIT.due("who came later, and later again", x.knows(2, 1), 3);
    }

    static void promise21_knows_whoSawItAliveAlone_doesNot() {
        SnowHouse x = Kit.ran("room a;room b;door a b;who r in a;who p in a;who q in a;thing k in a;take p k when all;"
            + "go r b when minute=1;kill p q k when all;", 4);
        KIT.due("r saw q alive", x.saw(0, 2, 0), 1);
        KIT.due("q is dead", x.alive(2, 1), 0);
        KIT.due("r", x.knows(0, 2), -1);
        KIT.due("p", x.knows(1, 2), 1);
    }

    static void promise21_knows_ofTheFirstAndOfTheLastPerson() {
        SnowHouse x = Kit.ran("room a;who q in a;who p in a;thing k in a;take p k when all;kill p q k when all;", 3);
        KIT.due("of the first", x.knows(1, 0), 1);
        SnowHouse y = Kit.ran(Promise08To12Test.sevenDeeds(), 20);
        KIT.due("of the last", y.knows(0, 7), 14);
        KIT.row("of all", p -> y.knows(0, p), -1, 2, 4, 6, 8, 10, 12, 14, -1);
    }

    static void promise21_knows_ofTheLiving_isNone() {
        SnowHouse x = Kit.ran(WITNESS, 9);
        KIT.due("of p", x.knows(2, 0), -1);
        KIT.due("of r", x.knows(0, 2), -1);
    }

    static void promise21_knows_theDeadLearnNothing() {
        SnowHouse x = Kit.ran("room a;room b;door a b;who p in a;who q in a;who r in b;thing k in a;take p k when all;"
            + "kill p q k when all;kill p r k when all;go r a when minute=2;", 6);
        KIT.due("q of r", x.knows(1, 2), -1);
        KIT.due("r of q, while it lived", x.knows(2, 1), 2);
        KIT.due("p of r", x.knows(0, 2), 3);
        KIT.due("q of itself", x.knows(1, 1), -1);
    }

    static void promise21_knows_inTheLastMinute() {
        KIT.due("of four minutes", Kit.ran(WITNESS, 4).knows(2, 1), 3);
        KIT.due("of three minutes", Kit.ran(WITNESS, 3).knows(2, 1), -1);
    }

    static void promise21_knows_noSuchPerson_isNone() {
        for (int person : NO_PERSON) {
            KIT.due("knows(" + person + ", 1)", murder().knows(person, 1), -1);
            KIT.due("knows(0, " + person + ")", murder().knows(0, person), -1);
        }
        KIT.due("but there is one who does", murder().knows(0, 1), 3);
    }
}
