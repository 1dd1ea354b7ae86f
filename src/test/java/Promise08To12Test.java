/** Promises 8 to 12: changes of the breakfast, and what lets an evening go. */
public final class Promise08To12Test {
    private static final Kit KIT = new Kit();
    /** Three rooms in a row, two people, two things; p feels 1 a minute by its only rule. */
    private static final String HOUSE = "room a;room b;room c;who p in a;who q in b;thing t in a;thing u in c;"
        + "feel p 1 when all;";
    private static final int[] NO_PERSON = {-1, 2, 3, 8, Integer.MIN_VALUE, Integer.MAX_VALUE};
    private static final int[] NO_ROOM = {-1, 3, 4, 8, Integer.MIN_VALUE, Integer.MAX_VALUE};

    public static void main(String[] args) throws Exception {
        KIT.cases(Promise08To12Test.class);
        KIT.close();
    }

    // ---- promise 8: begin

    static void promise08_begin_inEachRoomThereIs() {
        SnowHouse x = Kit.told(HOUSE);
        for (int person = 0; person < 2; person++) {
            for (int room = 0; room < 3; room++) {
                KIT.due("begin", x.begin(person, room), true);
                x.run(1);
                KIT.due("was", x.was(person, 0), room);
                KIT.due("the other one", x.was(1 - person, 0), person == 0 ? 1 : 2);
            }
        }
    }

    static void promise08_begin_theEighthPersonInTheEighthRoom() {
        SnowHouse x = Kit.told(Promise04Test.most());
        KIT.due("begin", x.begin(7, 7), true);
        x.run(1);
        KIT.due("was", x.was(7, 0), 7);
        KIT.due("begin", x.begin(8, 7), false);
        KIT.due("begin", x.begin(7, 8), false);
    }

    static void promise08_begin_noSuchPerson_isFalse() {
        SnowHouse x = Kit.told(HOUSE);
        for (int person : NO_PERSON) {
            KIT.due("begin(" + person + ", 1)", x.begin(person, 1), false);
        }
    }

    static void promise08_begin_noSuchRoom_isFalse() {
        SnowHouse x = Kit.told(HOUSE);
        for (int room : NO_ROOM) {
            KIT.due("begin(0, " + room + ")", x.begin(0, room), false);
        }
    }

    static void promise08_begin_refused_doesNothing() {
        SnowHouse x = Kit.told(HOUSE);
        x.begin(0, 2);
        for (int room : NO_ROOM) {
            x.begin(0, room);
        }
        for (int person : NO_PERSON) {
            x.begin(person, 0);
        }
        x.run(1);
        KIT.due("p", x.was(0, 0), 2);
        KIT.due("q", x.was(1, 0), 1);
    }

    static void promise08_begin_whereItBeginsAsTold_isTrue() {
        SnowHouse x = Kit.told(HOUSE);
        KIT.due("begin", x.begin(0, 0), true);
        x.run(1);
        KIT.due("p", x.was(0, 0), 0);
    }

    static void promise08_begin_twice_theLatestCounts() {
        SnowHouse x = Kit.told(HOUSE);
        x.begin(0, 2);
        x.begin(0, 1);
        x.run(1);
        KIT.due("p", x.was(0, 0), 1);
    }

    static void promise08_begin_ofOneWhoIsDeadInTheEvening_isTrue() {
        SnowHouse x = Kit.ran("room a;who p in a;who q in a;thing k in a;take p k when all;kill p q k when all;", 2);
        KIT.due("dead", x.alive(1, 1), 0);
        KIT.due("begin", x.begin(1, 0), true);
    }

    static void promise08_begin_theEveningStays() {
        SnowHouse x = Kit.ran(HOUSE, 3);
        x.begin(0, 2);
        KIT.due("minutes", x.has(6), 3);
        KIT.due("p", x.was(0, 0), 0);
        KIT.due("p", x.was(0, 2), 0);
        KIT.due("mood", x.mood(0, 2), 3);
    }

    // ---- promise 9: put

    static void promise09_put_inEachRoomThereIs() {
        SnowHouse x = Kit.told(HOUSE);
        for (int thing = 0; thing < 2; thing++) {
            for (int room = 0; room < 3; room++) {
                KIT.due("put", x.put(thing, room), true);
                x.run(1);
                KIT.due("where", x.where(thing, 0), room);
                KIT.due("the other one", x.where(1 - thing, 0), 2);
            }
        }
    }

    static void promise09_put_theEighthThingInTheEighthRoom() {
        SnowHouse x = Kit.told(Promise04Test.most());
        KIT.due("put", x.put(7, 7), true);
        x.run(1);
        KIT.due("where", x.where(7, 0), 7);
        KIT.due("put", x.put(8, 7), false);
        KIT.due("put", x.put(7, 8), false);
    }

    static void promise09_put_noSuchThing_isFalse() {
        SnowHouse x = Kit.told(HOUSE);
        for (int thing : NO_PERSON) {
            KIT.due("put(" + thing + ", 1)", x.put(thing, 1), false);
        }
    }

    static void promise09_put_noSuchRoom_isFalse() {
        SnowHouse x = Kit.told(HOUSE);
        for (int room : NO_ROOM) {
            KIT.due("put(0, " + room + ")", x.put(0, room), false);
        }
        KIT.due("nobody carries at breakfast", x.put(0, 100), false);
    }

    static void promise09_put_refused_doesNothing() {
        SnowHouse x = Kit.told(HOUSE);
        x.put(0, 1);
        for (int room : NO_ROOM) {
            x.put(0, room);
        }
        for (int thing : NO_PERSON) {
            x.put(thing, 0);
        }
        x.run(1);
        KIT.due("t", x.where(0, 0), 1);
        KIT.due("u", x.where(1, 0), 2);
    }

    static void promise09_put_peopleBeginWhereTheyDid() {
        SnowHouse x = Kit.told(HOUSE);
        x.put(0, 2);
        x.run(1);
        KIT.due("p", x.was(0, 0), 0);
        x.begin(0, 1);
        x.run(1);
        KIT.due("t", x.where(0, 0), 2);
    }

    static void promise09_put_twice_theLatestCounts() {
        SnowHouse x = Kit.told(HOUSE);
        x.put(0, 2);
        x.put(0, 1);
        x.run(1);
        KIT.due("t", x.where(0, 0), 1);
    }

    static void promise09_put_theEveningStays() {
        SnowHouse x = Kit.ran(HOUSE + "take p t when all;", 3);
        x.put(0, 2);
        KIT.due("minutes", x.has(6), 3);
        KIT.due("t", x.where(0, 2), 100);
        KIT.due("traces", x.has(8), 1);
    }

    // ---- promise 10: skip

    static void promise10_skip_leavesOutThatRuleAlone() {
        SnowHouse x = Kit.told(HOUSE + "feel p 10 when all;feel p 100 when all;");
        KIT.due("skip", x.skip(1, true), true);
        x.run(1);
        KIT.due("mood", x.mood(0, 0), 101);
        KIT.due("skip", x.skip(0, true), true);
        x.run(1);
        KIT.due("mood", x.mood(0, 0), 100);
    }

    static void promise10_skip_false_bringsItBack() {
        SnowHouse x = Kit.told(HOUSE + "feel p 10 when all;");
        x.skip(0, true);
        x.skip(1, true);
        KIT.due("skip", x.skip(0, false), true);
        x.run(1);
        KIT.due("mood", x.mood(0, 0), 1);
    }

    static void promise10_skip_asItIsAlready_isTrueAndChangesNothing() {
        SnowHouse x = Kit.told(HOUSE + "feel p 10 when all;");
        KIT.due("not left out", x.skip(0, false), true);
        x.run(1);
        KIT.due("mood", x.mood(0, 0), 11);
        x.skip(0, true);
        KIT.due("left out", x.skip(0, true), true);
        x.run(1);
        KIT.due("mood", x.mood(0, 0), 10);
    }

    static void promise10_skip_anotherRuleThanFeel() {
        SnowHouse x = Kit.told(HOUSE + "take p t when all;wipe p when all;lay p t when all;");
        x.skip(2, true);
        x.run(2);
        KIT.row("did", m -> x.did(0, m), 1, 3);
    }

    static void promise10_skip_the30thRule() {
        SnowHouse x = Kit.told("room a;who p in a;" + Kit.many("wipe p when all;", 28)
            + "feel p 10 when all;feel p 1 when all;");
        KIT.due("skip", x.skip(29, true), true);
        x.run(1);
        KIT.due("mood", x.mood(0, 0), 10);
        KIT.due("skip", x.skip(30, true), false);
        KIT.due("skip", x.skip(29, false), true);
        x.run(1);
        KIT.due("mood", x.mood(0, 0), 11);
    }

    static void promise10_skip_noSuchRule_isFalse() {
        SnowHouse x = Kit.told(HOUSE);
        for (int rule : new int[] {-1, 1, 2, 29, 30, 32, 64, Integer.MIN_VALUE, Integer.MAX_VALUE}) {
            KIT.due("skip(" + rule + ", true)", x.skip(rule, true), false);
            KIT.due("skip(" + rule + ", false)", x.skip(rule, false), false);
        }
    }

    static void promise10_skip_refused_doesNothing() {
        SnowHouse x = Kit.told(HOUSE);
        for (int rule : new int[] {-1, 1, 32, 64, -32, Integer.MIN_VALUE}) {
            x.skip(rule, true);
        }
        x.run(1);
        KIT.due("mood", x.mood(0, 0), 1);
        x.skip(0, true);
        for (int rule : new int[] {-1, 1, 32, 64, -32, Integer.MIN_VALUE}) {
            x.skip(rule, false);
        }
        x.run(1);
        KIT.due("mood", x.mood(0, 0), 0);
    }

    static void promise10_skip_theEveningStays() {
        SnowHouse x = Kit.ran(HOUSE, 3);
        x.skip(0, true);
        KIT.due("mood", x.mood(0, 2), 3);
        KIT.due("minutes", x.has(6), 3);
    }

    // ---- promise 11: anew

    static void promise11_anew_eachSortOfChangeIsGone() {
        SnowHouse x = Kit.told(HOUSE);
        x.begin(0, 2);
        x.begin(1, 0);
        x.put(0, 1);
        x.put(1, 0);
        x.skip(0, true);
        x.anew();
        x.run(1);
        KIT.row("was", p -> x.was(p, 0), 0, 1);
        KIT.row("where", t -> x.where(t, 0), 0, 2);
        KIT.due("mood", x.mood(0, 0), 1);
    }

    static void promise11_anew_withoutChanges_changesNothing() {
        SnowHouse x = Kit.told(HOUSE);
        x.anew();
        x.run(1);
        KIT.row("was", p -> x.was(p, 0), 0, 1);
        x.anew();
        x.anew();
        x.run(1);
        KIT.due("mood", x.mood(0, 0), 1);
    }

    static void promise11_anew_changesMayComeAgain() {
        SnowHouse x = Kit.told(HOUSE);
        x.begin(0, 2);
        x.anew();
        KIT.due("begin", x.begin(1, 2), true);
        x.run(1);
        KIT.row("was", p -> x.was(p, 0), 0, 2);
    }

    static void promise11_anew_theEveningStays() {
        SnowHouse x = Kit.told(HOUSE);
        x.begin(0, 2);
        x.run(3);
        x.anew();
        KIT.due("minutes", x.has(6), 3);
        KIT.due("was", x.was(0, 2), 2);
    }

    // ---- promise 12: run, as far as it lets an evening go or not

    private static final String MURDER = HOUSE + "go p b when has p t;take p t when all;kill p q t when all;";

    static void promise12_run_1Minute() {
        SnowHouse x = Kit.told(MURDER);
        KIT.due("run(1)", x.run(1), 0);
        KIT.due("minutes", x.has(6), 1);
    }

    static void promise12_run_180Minutes() {
        SnowHouse x = Kit.told(HOUSE);
        KIT.due("run(180)", x.run(180), 0);
        KIT.due("minutes", x.has(6), 180);
        KIT.due("mood", x.mood(0, 179), 180);
    }

    static void promise12_run_outOf1To180_isNone() {
        SnowHouse x = Kit.told(MURDER);
        for (int n : new int[] {0, -1, 181, 182, 1200, Integer.MIN_VALUE, Integer.MAX_VALUE}) {
            KIT.due("run(" + n + ")", x.run(n), -1);
            KIT.due("no evening", x.has(6), 0);
        }
    }

    static void promise12_run_refused_theEveningStays() {
        SnowHouse x = Kit.ran("room a;who p in a;who q in a;thing k in a;take p k when all;kill p q k when all;", 5);
        x.skip(0, true);
        for (int n : new int[] {0, -1, 181, Integer.MIN_VALUE, Integer.MAX_VALUE}) {
            x.run(n);
            KIT.due("minutes", x.has(6), 5);
            KIT.due("deeds", x.has(7), 1);
            KIT.due("traces", x.has(8), 2);
            KIT.due("needed", x.needed(0, 0), 1);
            KIT.due("spare", x.spare(1), 0);
            KIT.due("fairest", x.fairest(0), 1);
            KIT.due("knows", x.knows(0, 1), 1);
        }
    }

    static void promise12_run_answersHowManyDeeds() {
        SnowHouse x = Kit.told("room a;room b;door a b;who p in a;who q in a;who r in b;thing k in a;"
            + "take p k when all;kill p q k when all;kill p r k when all;go p b when dead q;");
        KIT.row("run", n -> x.run(n + 1), 0, 1, 1, 2, 2);
    }

    static void promise12_run_7Deeds_areTheMost() {
        SnowHouse x = Kit.told(sevenDeeds());
        KIT.due("run", x.run(20), 7);
        KIT.due("deeds", x.has(7), 7);
        KIT.row("alive", p -> x.alive(p, 19), 1, 0, 0, 0, 0, 0, 0, 0);
    }

    /** The first one kills all others, room by room. */
    static String sevenDeeds() {
        StringBuilder text = new StringBuilder(Kit.many("room r#;", 8));
        text.append(Kit.many("who p# in r#;", 8)).append("thing k in ra;take pa k when all;");
        for (char c = 'b'; c <= 'h'; c++) {
            text.append("door r").append((char) (c - 1)).append(" r").append(c).append(";");
            text.append("kill pa p").append(c).append(" k when all;");
        }
        return text.append("go pa rh when all;").toString();
    }

    static void promise12_run_byTheBreakfastAsItIs() {
        SnowHouse x = Kit.told(HOUSE);
        x.begin(0, 1);
        x.put(1, 0);
        x.run(2);
        KIT.due("p", x.was(0, 1), 1);
        KIT.due("u", x.where(1, 1), 0);
        x.run(2);
        KIT.due("the changes stay", x.was(0, 1), 1);
        KIT.due("the changes stay", x.where(1, 1), 0);
    }

    static void promise12_run_again_isTheSameEvening() {
        SnowHouse x = Kit.told(sevenDeeds());
        for (int i = 0; i < 3; i++) {
            KIT.due("run", x.run(20), 7);
            KIT.due("traces", x.has(8), 8);
            KIT.due("the last deed", x.deed(6, 3), 14);
            KIT.due("knows", x.knows(0, 1), 2);
            KIT.due("where", x.where(0, 19), 100);
        }
    }

    static void promise12_run_shorter_nothingOfTheLongerOneIsLeft() {
        SnowHouse x = Kit.ran(sevenDeeds(), 20);
        KIT.due("run", x.run(2), 0);
        KIT.due("deed", x.deed(0, 0), -1);
        KIT.due("traces", x.has(8), 1);
        KIT.due("trace", x.trace(1, 0), -1);
        KIT.due("was", x.was(0, 2), -1);
        KIT.due("did", x.did(0, 2), -1);
        KIT.due("knows", x.knows(0, 1), -1);
        KIT.due("alive", x.alive(1, 1), 1);
        KIT.due("fair", x.fair(1), -1);
    }

    static void promise12_run_again_noTraceOfTheEveningAheadIsLeft() {
        SnowHouse x = Kit.told("room a;who q in a;who p in a;thing t in a;take p t when all;wipe q when all;");
        for (int i = 0; i < 3; i++) {
            x.run(1);
            KIT.due("q has nothing to wipe as yet", x.did(0, 0), -1);
            KIT.due("wiped", x.trace(0, 5), -1);
        }
    }

    static void promise12_run_withNobody_isAnEveningWithoutDeeds() {
        SnowHouse x = new SnowHouse();
        KIT.due("run of a new one", x.run(5), 0);
        KIT.due("minutes", x.has(6), 5);
        KIT.due("was", x.was(0, 0), -1);
        SnowHouse y = Kit.told("room a;thing t in a;");
        KIT.due("run", y.run(180), 0);
        KIT.due("where", y.where(0, 179), 0);
    }
}
