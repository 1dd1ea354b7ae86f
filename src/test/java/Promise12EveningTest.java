/** Promise 12, run: what goes on in AN EVENING (Terms II), TESTS and SUMS (Terms I) as they come out in it. */
public final class Promise12EveningTest {
    private static final Kit KIT = new Kit();
    /** p and r in a, q in b; p may take t, r takes u in minute 0 and has it from then on. */
    private static final String HOUSE = "room a;room b;room c;door a b;who p in a;who q in b;who r in a;"
        + "thing t in a;thing u in a;take r u when all;";
    /** p takes the knife in minute 0 and kills q in minute 1; s, the third one, comes in minute 3. */
    private static final String DEED = "room a;room b;door a b;who p in a;who q in a;who s in b;thing k in a;"
        + "take p k when all;kill p q k when all;go s a when minute=3;";

    public static void main(String[] args) throws Exception {
        KIT.cases(Promise12EveningTest.class);
        KIT.close();
    }

    /** What a person did in the minutes 0, 1, 2 .. */
    private static void did(String text, int person, int... want) {
        SnowHouse x = Kit.ran(text, want.length);
        KIT.row("did by " + person, m -> x.did(person, m), want);
    }

    private static void was(String text, int person, int... want) {
        SnowHouse x = Kit.ran(text, want.length);
        KIT.row("was " + person, m -> x.was(person, m), want);
    }

    private static void where(String text, int thing, int... want) {
        SnowHouse x = Kit.ran(text, want.length);
        KIT.row("where " + thing, m -> x.where(thing, m), want);
    }

    private static void mood(String text, int person, int... want) {
        SnowHouse x = Kit.ran(text, want.length);
        KIT.row("mood of " + person, m -> x.mood(person, m), want);
    }

    // ---- turns

    static void promise12_turns_byNumbers_theSecondSeesWhatTheFirstDid() {
        String text = "room a;room b;door a b;who p in a;who q in a;go p b when all;go q b when at p b;"
            + "feel p 1 when at q b;";
        was(text, 1, 1, 1);
        mood(text, 0, 0, 1);
    }

    static void promise12_turns_notByTheOrderOfTheRules() {
        was("room a;room b;door a b;who p in a;who q in a;go q b when at p b;go p b when all;", 1, 1);
    }

    static void promise12_turns_oneKilledAheadOfItsTurn_hasNone() {
        String text = DEED + "feel q 1 when all;wipe q when minute=1;";
        mood(text, 1, 1, 1, 1);
        did(text, 1, -1, -1, -1);
    }

    static void promise12_turns_oneKilledBehindItsTurn_hadIt() {
        String text = "room a;who q in a;who p in a;thing k in a;take p k when all;kill p q k when all;"
            + "feel q 1 when all;wipe q when all;";
        mood(text, 0, 1, 2, 2);
        did(text, 0, -1, 3, -1);
    }

    static void promise12_turns_theDeadHaveNone() {
        String text = DEED + "go q b when minute>1;feel q 1 when minute>1;";
        was(text, 1, 0, 0, 0, 0, 0);
        mood(text, 1, 0, 0, 0, 0, 0);
    }

    static void promise12_turns_oneRuleAMinute() {
        did("room a;room b;door a b;who p in a;thing t in a;thing u in a;take p t when all;take p u when all;"
            + "go p b when all;", 0, 0, 1, 2, -1);
    }

    static void promise12_turns_theFirstWhoseTestHolds() {
        did("room a;who p in a;thing t in a;thing u in a;take p t when minute=1;take p u when all;", 0, 1, 0);
    }

    static void promise12_turns_theFirstThatCanBeDone() {
        did("room a;room b;door a b;who p in a;thing t in b;thing u in b;take p t when all;go p b when all;"
            + "lay p u when all;wipe p when all;take p u when all;", 0, 1, 0, 3, 4);
    }

    static void promise12_turns_noRuleThatCanBeDone_nothingIsDone() {
        did("room a;room b;who p in a;thing t in b;take p t when all;go p b when all;wipe p when all;", 0, -1, -1);
    }

    static void promise12_turns_noRulesAtAll_nothingIsDone() {
        did("room a;who p in a;who q in a;go q a when all;", 0, -1, -1, -1);
    }

    static void promise12_turns_aRuleLeftOut_isNotDone_theNextIs() {
        SnowHouse x = Kit.told("room a;who p in a;thing t in a;thing u in a;take p t when all;take p u when all;");
        x.skip(0, true);
        x.run(2);
        KIT.row("did", m -> x.did(0, m), 1, -1);
    }

    static void promise12_turns_rulesOfAnother_areNotDone() {
        did("room a;room b;door a b;who p in a;who q in a;go q b when all;wipe p when all;", 0, -1, -1);
    }

    // ---- feel

    static void promise12_feel_moodIs0AtFirst() {
        mood("room a;who p in a;feel p 5 when mood p=0;", 0, 5, 5);
        mood("room a;who p in a;", 0, 0, 0);
    }

    static void promise12_feel_aheadOfTheOtherRules_evenIfToldBehind() {
        did("room a;room b;door a b;who p in a;go p b when mood p=1;feel p 1 when all;", 0, 0, -1);
    }

    static void promise12_feel_allOfThem_oneAfterTheOther() {
        mood("room a;who p in a;feel p 1 when all;feel p mood p*10 when mood p=1;feel p 100 when mood p=11;"
            + "feel p 1000 when mood p=1;", 0, 111, 112);
    }

    static void promise12_feel_whoseTestDoesNotHold_addsNothing() {
        mood("room a;who p in a;feel p 1 when minute=1;feel p 10 when not all;", 0, 0, 1, 1);
    }

    static void promise12_feel_ofItsOwnTurnAlone() {
        String text = "room a;who p in a;who q in a;feel q 1 when all;feel p mood q when all;";
        mood(text, 0, 0, 1, 3);
        mood(text, 1, 1, 2, 3);
    }

    static void promise12_feel_leftOut_addsNothing() {
        SnowHouse x = Kit.told("room a;who p in a;feel p 1 when all;feel p 10 when all;");
        x.skip(1, true);
        x.run(2);
        KIT.row("mood", m -> x.mood(0, m), 1, 2);
    }

    static void promise12_feel_thirtyRules_eachItsOwnSum() {
        StringBuilder rules = new StringBuilder("room a;who p in a;");
        for (int i = 1; i <= 30; i++) {
            rules.append("feel p 0+").append(i).append(" when 1<").append(i).append(";");
        }
        mood(rules.toString(), 0, 464, 928);
    }

    static void promise12_feel_aboveAMillion_isAMillion() {
        String head = "room a;who p in a;feel p 1000*999 when minute=0;";
        mood(head + "feel p 999 when minute=1;", 0, 999000, 999999);
        mood(head + "feel p 1000 when minute=1;", 0, 999000, 1000000);
        mood(head + "feel p 1001 when minute=1;", 0, 999000, 1000000, 1000000);
        mood(head + "feel p 9999*9999 when minute>0;feel p 0-1 when minute=2;", 0, 999000, 1000000, 999999);
    }

    static void promise12_feel_belowMinusAMillion_isThat() {
        String head = "room a;who p in a;feel p 0-1000*999 when minute=0;";
        mood(head + "feel p 0-999 when minute=1;", 0, -999000, -999999);
        mood(head + "feel p 0-1000 when minute=1;", 0, -999000, -1000000);
        mood(head + "feel p 0-1001 when minute=1;", 0, -999000, -1000000, -1000000);
        mood(head + "feel p 0-9999*9999 when minute>0;feel p 1 when minute=2;", 0, -999000, -1000000, -999999);
    }

    // ---- go

    static void promise12_go_whoIsThere_doesNot() {
        did("room a;room b;door a b;who p in a;go p a when all;go p b when all;", 0, 1, 0, 1);
    }

    static void promise12_go_withoutAWay_doesNot() {
        String text = "room a;room b;room c;room d;door a b;door c d;who p in a;go p d when all;go p b when all;";
        did(text, 0, 1, -1);
        was(text, 0, 1, 1);
    }

    static void promise12_go_oneDoorAMinute_throughAllEightRooms() {
        was("room a;room b;room c;room d;room e;room f;room g;room h;door a b;door b c;door c d;door d e;door e f;"
            + "door f g;door g h;who p in a;go p h when all;", 0, 1, 2, 3, 4, 5, 6, 7, 7);
    }

    static void promise12_go_throughADoor_eitherWay() {
        was("room a;room b;door b a;who p in a;go p b when minute=0;go p a when minute=1;", 0, 1, 0);
    }

    static void promise12_go_whereTheFewestDoorsLead() {
        // by b it would be three doors more, by d it is none
        was("room a;room b;room c;room d;who p in a;go p d when all;door a b;door b c;door c d;door a d;", 0, 3);
        // by b it would be two doors more, by e it is one
        was("room a;room b;room c;room d;room e;room f;door a b;door b c;door c f;door a e;door e f;who p in a;"
            + "go p f when all;", 0, 4, 5);
    }

    static void promise12_go_throughTheDoorThatLeadsThere_aheadOfALesserNumber() {
        String text = "room a;room b;room c;door a b;door b c;door a c;who p in #;go p c when minute=0;"
            + "go p b when minute=1;go p a when minute=2;";
        was(text.replace('#', 'a'), 0, 2, 1, 0);
        was(text.replace('#', 'b'), 0, 2, 1, 0);
    }

    static void promise12_go_throughAllRooms_inWhateverOrderTheyAreTold() {
        for (int step = 1; step < 8; step += 2) {
            for (int first = 0; first < 8; first++) {
                StringBuilder text = new StringBuilder(Kit.many("room r#;", 8));
                char[] names = new char[8];
                int[] want = new int[8];
                for (int i = 0; i < 8; i++) {
                    want[Math.max(0, i - 1)] = (first + step * i) % 8;
                    names[i] = (char) ('a' + (first + step * i) % 8);
                    if (i > 0) {
                        text.append("door r").append(names[i]).append(" r").append(names[i - 1]).append(";");
                    }
                }
                want[7] = want[6];
                text.append("who p in r").append(names[0]).append(";go p r").append(names[7]).append(" when all;");
                was(text.toString(), 0, want);
            }
        }
    }

    static void promise12_go_toTheFirstRoom_byTheFewestDoorsToo() {
        // from d three doors lead there by b, and two by c
        was("room a;room b;room c;room d;room e;door d b;door b e;door e a;door d c;door c a;who p in d;"
            + "go p a when all;",
            0, 2, 0, 0);
    }

    static void promise12_go_ofSeveralWays_byTheLeastNumber() {
        was("room a;room b;room c;room d;door a c;door c d;door a b;door b d;who p in a;go p d when all;", 0, 1, 3);
        was("room d;room b;room c;room a;door a c;door c d;door a b;door b d;who p in a;go p d when all;", 0, 1, 0);
    }

    static void promise12_go_byDoorsToldBehindTheRule() {
        was("room a;who p in a;go p a when minute=1;room b;go p b when minute=0;door a b;", 0, 1, 0);
    }

    // ---- take

    static void promise12_take_whatLiesInItsRoom() {
        where("room a;who p in a;thing t in a;take p t when minute=1;", 0, 0, 100);
    }

    static void promise12_take_whatLiesElsewhere_cannot() {
        where("room a;room b;door a b;who p in a;thing t in b;take p t when all;", 0, 1, 1);
    }

    static void promise12_take_whatAnotherCarries_cannot() {
        did(HOUSE + "take p u when minute>0;", 0, -1, -1);
        where(HOUSE + "take p u when minute>0;", 1, 102, 102);
    }

    static void promise12_take_whatItCarries_cannot() {
        did("room a;who p in a;thing t in a;take p t when all;", 0, 0, -1, -1);
    }

    static void promise12_take_itGoesWhereItIsCarried() {
        where("room a;room b;door a b;who p in a;thing t in a;take p t when all;go p b when minute=1;"
            + "lay p t when minute=2;", 0, 100, 100, 1);
    }

    static void promise12_take_asManyAsThereAre() {
        SnowHouse x = Kit.ran("room a;who p in a;" + Kit.many("thing t# in a;take p t# when all;", 8), 8);
        KIT.row("where", t -> x.where(t, 7), 100, 100, 100, 100, 100, 100, 100, 100);
    }

    // ---- lay

    static void promise12_lay_whatItCarries_inItsRoom() {
        where("room a;room b;door a b;who p in a;thing t in a;take p t when minute=0;go p b when minute=1;"
            + "lay p t when minute>1;", 0, 100, 100, 1, 1);
    }

    static void promise12_lay_whatItDoesNotCarry_cannot() {
        did("room a;who p in a;thing t in a;lay p t when all;", 0, -1);
    }

    static void promise12_lay_whatAnotherCarries_cannot() {
        did(HOUSE + "lay p u when all;", 0, -1, -1);
    }

    static void promise12_lay_twice_cannot() {
        did("room a;who p in a;thing t in a;take p t when minute=0;lay p t when minute>0;", 0, 0, 1, -1);
    }

    // ---- wipe

    static void promise12_wipe_withoutATrace_cannot() {
        did("room a;who p in a;wipe p when all;", 0, -1, -1);
    }

    static void promise12_wipe_withATraceInAnotherRoom_cannot() {
        did("room a;room b;who p in a;who q in b;thing t in a;take p t when all;wipe q when all;", 1, -1, -1);
    }

    static void promise12_wipe_withWipedTracesAlone_cannot() {
        did("room a;who p in a;thing t in a;take p t when minute=0;wipe p when all;", 0, 0, 1, -1);
    }

    static void promise12_wipe_allInItsRoom() {
        SnowHouse x = Kit.ran("room a;room b;who p in a;who q in b;thing t in a;thing u in a;thing v in b;"
            + "take p t when minute=0;take p u when minute=1;take q v when all;wipe p when minute=3;"
            + "lay p t when minute=2;", 5);
        KIT.row("wiped", k -> x.trace(k, 5), 3, -1, 3, 3, -1);
        KIT.row("room", k -> x.trace(k, 4), 0, 1, 0, 0, -1);
    }

    static void promise12_wipe_inTheMinuteInWhichItWasLeft() {
        SnowHouse x = Kit.ran("room a;who p in a;who q in a;thing t in a;take p t when all;wipe q when all;", 1);
        KIT.due("left in", x.trace(0, 0), 0);
        KIT.due("wiped in", x.trace(0, 5), 0);
        KIT.due("q", x.did(1, 0), 1);
    }

    static void promise12_wipe_tracesOfTheKillToo() {
        SnowHouse x = Kit.ran(DEED + "wipe p when dead q;", 4);
        KIT.row("wiped", k -> x.trace(k, 5), 2, 2, -1);
        did(DEED + "wipe p when dead q;", 0, 0, 1, 3, -1);
    }

    // ---- kill

    static void promise12_kill_whenTheTwoAreAloneAndItCarriesTheThing() {
        did(DEED, 0, 0, 1, -1);
    }

    static void promise12_kill_whoIsDeadAlready_cannot() {
        did(DEED + "kill p q k when minute>1;", 0, 0, 1, -1, -1);
        KIT.due("one deed", Kit.ran(DEED + "kill p q k when minute>1;", 5).has(7), 1);
    }

    static void promise12_kill_whoIsInAnotherRoom_cannot() {
        did("room a;room b;door a b;who p in a;who q in b;thing k in a;take p k when all;kill p q k when all;",
            0, 0, -1, -1);
    }

    static void promise12_kill_withAThirdOneAlive_cannot() {
        did("room a;room b;door a b;who p in a;who q in a;who r in a;thing k in a;take p k when all;"
            + "kill p q k when all;go r b when minute=2;", 0, 0, -1, -1, 1);
    }

    static void promise12_kill_withAThirdOneDead_can() {
        String text = "room a;room b;door a b;who p in a;who q in a;who r in b;thing k in a;take p k when all;"
            + "kill p q k when all;kill p r k when all;go r a when minute=2;";
        did(text, 0, 0, 1, -1, 2);
    }

    static void promise12_kill_withAThingThatLiesThere_cannot() {
        did("room a;who p in a;who q in a;thing k in a;kill p q k when all;", 0, -1, -1);
    }

    static void promise12_kill_withAnotherThingThanItCarries_cannot() {
        did("room a;who p in a;who q in a;thing k in a;thing l in a;take p l when all;kill p q k when all;", 0, 0, -1);
    }

    static void promise12_kill_withAThingThatTheOtherCarries_cannot() {
        did("room a;who p in a;who q in a;thing k in a;take q k when all;kill p q k when all;", 0, -1, -1);
    }

    static void promise12_kill_allThatTheOtherCarried_liesInTheRoom() {
        SnowHouse x = Kit.ran("room a;room b;door a b;who p in b;who q in a;thing k in b;thing t in a;thing u in a;"
            + "thing v in a;take p k when all;take q t when all;take q u when all;go q b when minute=2;"
            + "kill p q k when all;", 4);
        // q takes t and u and comes; then p, whose turn is ahead of q's, kills it in minute 3
        KIT.row("ahead", t -> x.where(t, 2), 100, 101, 101, 0);
        KIT.row("then", t -> x.where(t, 3), 100, 1, 1, 0);
    }

    static void promise12_kill_allEightThingsTheOtherCarried_butTheOneItIsKilledWith() {
        String text = "room a;room b;who q in b;who p in b;" + Kit.many("thing t# in b;", 8)
            + Kit.many("take q t# when minute<7;", 7) + "take p th when all;kill p q th when minute=8;";
        SnowHouse x = Kit.ran(text, 9);
        KIT.row("ahead", t -> x.where(t, 7), 100, 100, 100, 100, 100, 100, 100, 101);
        KIT.row("then", t -> x.where(t, 8), 1, 1, 1, 1, 1, 1, 1, 101);
    }

    static void promise12_kill_whatItCarriesItself_andOthersCarry_stays() {
        SnowHouse x = Kit.ran("room a;room b;who p in a;who q in a;who r in b;thing k in a;thing t in a;thing u in b;"
            + "take p k when all;take p t when minute=1;take r u when all;kill p q k when minute=2;", 3);
        KIT.row("where", t -> x.where(t, 2), 100, 100, 102);
    }

    static void promise12_kill_byADeadOne_cannot() {
        // both are out for each other's life; the one of the lesser number is first
        SnowHouse x = Kit.ran("room a;who p in a;who q in a;thing k in a;thing l in a;take p k when all;"
            + "take q l when all;kill q p l when all;kill p q k when all;", 3);
        KIT.due("deeds", x.has(7), 1);
        KIT.due("the killer", x.deed(0, 0), 0);
        KIT.row("did", m -> x.did(1, m), 1, -1, -1);
    }

    static void promise12_kill_twoInOneMinute_inTwoRooms() {
        SnowHouse x = Kit.told("room a;room b;who p in b;who q in b;who r in a;who s in a;thing k in a;thing l in b;"
            + "take r k when all;take p l when all;kill r s k when all;kill p q l when all;");
        KIT.due("run", x.run(2), 2);
        KIT.row("killers", k -> x.deed(k, 0), 0, 2, -1);
    }

    static void promise12_kill_aThirdComesInTheSameMinute_butEarlier() {
        // r, whose turn comes first, is there already
        did("room a;room b;door a b;who r in b;who p in a;who q in a;thing k in a;take p k when all;"
            + "kill p q k when all;go r a when minute=1;", 1, 0, -1, -1);
    }

    // ---- traces

    static void promise12_traces_ofTakeLayAndKillAlone() {
        SnowHouse x = Kit.ran("room a;room b;door a b;who p in a;who q in a;thing k in a;feel p 1 when all;"
            + "take p k when minute=0;kill p q k when minute=1;lay p k when minute=2;wipe p when minute=3;"
            + "go p b when minute=4;", 5);
        KIT.row("did", m -> x.did(0, m), 1, 2, 3, 4, 5);
        KIT.due("traces", x.has(8), 3);
        KIT.row("kinds", k -> x.trace(k, 1), 1, 3, 2, -1);
    }

    // ---- seeing and knowing

    static void promise12_sees_atTheEndOfAMinuteAlone() {
        // q is in a while p has its turn, but not at the end
        SnowHouse x = Kit.ran("room a;room b;room c;door a b;door a c;who q in b;who p in a;go q a when minute=0;"
            + "go p c when minute=0;", 1);
        KIT.due("p and q met at the door", x.saw(1, 0, 0), 0);
        KIT.due("nor the other way", x.saw(0, 1, 0), 0);
    }

    static void promise12_knows_fromTheEndOfTheMinute_notInIt() {
        mood(DEED + "feel p 1 when knows p q;feel s 1 when knows s q;", 0, 0, 0, 1, 2, 3);
        mood(DEED + "feel p 1 when knows p q;feel s 1 when knows s q;", 2, 0, 0, 0, 0, 1);
    }

    // ---- tests

    /** Whether in minute 2 a test holds of DEED, in which q is dead by then and s is still in b. */
    private static void holds(String test, boolean want) {
        SnowHouse x = Kit.ran(DEED + "feel s 1 when minute=2 and [" + test + "];", 3);
        KIT.due(test, x.mood(2, 2), want ? 1 : 0);
    }

    static void promise12_test_all() {
        holds("all", true);
        holds("not all", false);
        holds("not not all", true);
        holds("not not not all", false);
    }

    static void promise12_test_andBindsCloserThanOr() {
        holds("all or all and not all", true);
        holds("not all and not all or all", true);
        holds("not all and all or all and all", true);
        holds("not all and [not all or all]", false);
        holds("[all or all] and not all", false);
        holds("not all or not all or all", true);
        holds("not all or not all or not all", false);
        holds("all and all and not all", false);
        holds("all and not all or not all", false);
    }

    static void promise12_test_notBindsTheNextFactAlone() {
        holds("not all or all", true);
        holds("not all and not all", false);
        holds("not [all or all]", false);
        holds("not 1=2", true);
        holds("not at p a or at p a", true);
    }

    static void promise12_test_not_ofEachFact() {
        for (String fact : new String[] {"all", "at p a", "has p k", "near p q", "alone p", "dead q", "knows p q",
            "1<2", "2>1", "2=2", "[all]"}) {
            boolean holds = !fact.startsWith("near");
            holds(fact, holds);
            holds("not " + fact, !holds);
            holds("not not " + fact, holds);
            holds("not [" + fact + " and " + fact + "]", !holds);
        }
    }

    /** Whether a test of p, alone in the house, holds, that is too long to stand beside others. */
    private static void holdsAlone(String test, boolean want) {
        SnowHouse x = Kit.ran("room a;who p in a;feel p 1 when " + test + ";", 1);
        KIT.due(test, x.mood(0, 0), want ? 1 : 0);
    }

    static void promise12_test_longOnes() {
        holdsAlone("not all or ".repeat(100) + "all", true);
        holdsAlone("not all or ".repeat(100) + "not all", false);
        holdsAlone("all or " + "not all or ".repeat(99) + "not all", true);
        holdsAlone("all and ".repeat(130) + "all", true);
        holdsAlone("all and ".repeat(130) + "not all", false);
        holdsAlone("not all and " + "all and ".repeat(130) + "all", false);
        holdsAlone("not all and all or ".repeat(60) + "all", true);
        holdsAlone("not ".repeat(280) + "all", true);
        holdsAlone("not ".repeat(281) + "all", false);
        holdsAlone("1" + "+1".repeat(500) + "=501", true);
        holdsAlone("0" + "-1".repeat(500) + "=0-500", true);
        holdsAlone("1" + "*2".repeat(19) + "=1" + "*2".repeat(18) + "+1" + "*2".repeat(18), true);
    }

    static void promise12_test_lessGreaterLike_onTheirEdges() {
        holds("1<2", true);
        holds("2<2", false);
        holds("3<2", false);
        holds("2>1", true);
        holds("2>2", false);
        holds("2>3", false);
        holds("2=2", true);
        holds("2=3", false);
        holds("3=2", false);
        holds("0-1<0", true);
        holds("0-2<0-1", true);
    }

    static void promise12_test_at_theLivingAndTheDead() {
        holds("at p a", true);
        holds("at p b", false);
        holds("at q a", true);
        holds("at q b", false);
        holds("at s b", true);
        holds("at s a", false);
    }

    static void promise12_test_has_whoCarriesIt() {
        holds("has p k", true);
        holds("has q k", false);
        holds("has s k", false);
        mood("room a;room b;who p in a;thing t in a;feel p 1 when has p t;take p t when minute=0;"
            + "lay p t when minute=1;", 0, 0, 1, 1);
    }

    static void promise12_test_has_notWhatTheDeadCarried() {
        mood("room a;who p in a;who q in a;thing k in a;thing t in a;take p k when all;take q t when minute=0;"
            + "kill p q k when minute=2;feel p 1 when has q t;", 0, 0, 1, 2, 2);
    }

    static void promise12_test_near_bothAliveInOneRoom() {
        holds("near p s", false);
        holds("near p q", false);
        holds("near q p", false);
        mood(DEED + "feel p 1 when near p q;", 0, 1, 2, 2);
        mood(DEED + "feel p 1 when near q p;", 0, 1, 2, 2);
        mood(DEED + "feel p 1 when not near p q;", 0, 0, 0, 1);
        mood(DEED + "feel p 1 when near p s;", 0, 0, 0, 0, 0, 1);
    }

    static void promise12_test_near_twoDeadOnes_areNot() {
        SnowHouse x = Kit.ran("room a;room b;door a b;who p in a;who q in a;who r in b;thing k in a;take p k when all;"
            + "kill p q k when all;kill p r k when all;go r a when minute=2;feel p 1 when near q r;", 6);
        KIT.due("two deeds", x.has(7), 2);
        KIT.due("mood", x.mood(0, 5), 0);
    }

    static void promise12_test_alone_noOtherIsAliveInItsRoom() {
        holds("alone p", true);
        holds("alone s", true);
        mood(DEED + "feel p 1 when alone p;", 0, 0, 0, 1, 2, 2);
        mood("room a;who p in a;feel p 1 when alone p;", 0, 1);
        mood("room a;who p in a;who q in a;feel p 1 when alone q;", 0, 0);
    }

    static void promise12_test_alone_ofTheDead() {
        // the killer is with it until it goes; then nobody alive is
        mood("room a;room b;door a b;who p in a;who q in a;thing k in a;take p k when all;kill p q k when all;"
            + "go p b when minute=3;feel p 1 when minute>1 and alone q;", 0, 0, 0, 0, 0, 1);
    }

    static void promise12_test_dead() {
        holds("dead q", true);
        holds("dead p", false);
        mood(DEED + "feel s 1 when dead q;", 2, 0, 1, 2);
    }

    static void promise12_test_knows() {
        holds("knows p q", true);
        holds("knows s q", false);
        holds("knows p s", false);
        holds("knows q p", false);
    }

    static void promise12_test_leftAlone_isTrueOfItsOwnMoment() {
        // p goes first; q's test is of p being away
        did("room a;room b;door a b;who p in a;who q in a;go p b when minute=1;wipe q when all;go q b when alone q;",
            1, -1, 2, -1);
    }

    // ---- sums

    private static void worth(String sum, int want) {
        SnowHouse x = Kit.ran("room a;who p in a;feel p " + sum + " when all;", 1);
        KIT.due(sum, x.mood(0, 0), want);
    }

    static void promise12_sum_allFromTheLeftOn() {
        worth("10-3-2", 5);
        worth("10-3+2", 9);
        worth("100/5/2", 10);
        worth("100/5*2", 40);
        worth("7%4*2", 6);
        worth("2*7%4", 2);
        worth("17%7%2", 1);
        worth("2-3+4-5+6", 4);
    }

    static void promise12_sum_productsAheadOfSums() {
        worth("2+3*4", 14);
        worth("2*3+4", 10);
        worth("20-7%4", 17);
        worth("20-8/4", 18);
        worth("(2+3)*4", 20);
        worth("20-(7-4)", 17);
        worth("100/(5/2)", 50);
    }

    static void promise12_sum_numbers() {
        worth("0", 0);
        worth("5", 5);
        worth("0012", 12);
        worth("9999", 9999);
    }

    static void promise12_sum_quotient_theGreatestWholeNumberNotAbove() {
        worth("7/2", 3);
        worth("6/2", 3);
        worth("1/2", 0);
        worth("(0-1)/2", -1);
        worth("(0-7)/2", -4);
        worth("(0-6)/2", -3);
        worth("7/(0-2)", -4);
        worth("6/(0-2)", -3);
        worth("(0-7)/(0-2)", 3);
        worth("0/(0-5)", 0);
    }

    static void promise12_sum_rest_whatThenLacks() {
        worth("7%2", 1);
        worth("6%2", 0);
        worth("(0-7)%2", 1);
        worth("(0-7)%5", 3);
        worth("7%(0-5)", -3);
        worth("(0-7)%(0-5)", -2);
        worth("(0-6)%3", 0);
        worth("3%7", 3);
    }

    static void promise12_sum_by0_bothGive0() {
        worth("7/0", 0);
        worth("7%0", 0);
        worth("(0-7)/0", 0);
        worth("(0-7)%0", 0);
        worth("0/0", 0);
        worth("0%0", 0);
        worth("5+7/0", 5);
        worth("1+7%(3-3)", 1);
    }

    static void promise12_sum_aboveAMillion_isThat_atEachStep() {
        worth("9999*100+99", 999999);
        worth("9999*100+100", 1000000);
        worth("9999*100+101", 1000000);
        worth("9999*100+101-1", 999999);
        worth("1000*1000", 1000000);
        worth("1001*1000", 1000000);
        worth("9999*9999", 1000000);
        worth("9999*9999-1", 999999);
        worth("9999*9999/9999", 100);
        worth("0-(0-1000*1000-1)", 1000000);
        worth("0-(0-999)*1001+1", 1000000);
    }

    static void promise12_sum_belowMinusAMillion_isThat_atEachStep() {
        worth("0-9999*100-99", -999999);
        worth("0-9999*100-100", -1000000);
        worth("0-9999*100-101", -1000000);
        worth("0-9999*100-101+1", -999999);
        worth("(0-1000)*1000", -1000000);
        worth("(0-1001)*1000", -1000000);
        worth("(0-9999)*9999+1", -999999);
        worth("(0-1000*1000)+(0-1)+2", -999998);
    }

    static void promise12_sum_theGreatestProducts_doNotWrapAround() {
        worth("(1000*1000)*(1000*1000)", 1000000);
        worth("(0-1000*1000)*(1000*1000)", -1000000);
        worth("(0-1000*1000)*(0-1000*1000)", 1000000);
        worth("(1000*1000)*4295", 1000000);
        worth("(1000*1000)*2148", 1000000);
        worth("(0-1000*1000)*2148", -1000000);
        worth("1000*1000+1000*1000", 1000000);
        worth("0-1000*1000-1000*1000", -1000000);
    }

    static void promise12_sum_theGreatestQuotients() {
        worth("1000*1000/1", 1000000);
        worth("1000*1000/(0-1)", -1000000);
        worth("(0-1000*1000)/(0-1)", 1000000);
        worth("(0-1)/(1000*1000)", -1);
        worth("(0-1)%(1000*1000)", 999999);
        worth("1%(0-1000*1000)", -999999);
    }

    static void promise12_sum_minAndMax() {
        worth("min(3,5)", 3);
        worth("min(5,3)", 3);
        worth("max(3,5)", 5);
        worth("max(5,3)", 5);
        worth("min(4,4)+max(4,4)", 8);
        worth("max(0-3,0-5)", -3);
        worth("min(0-3,0-5)", -5);
        worth("max(min(9,8),min(7,0-1))", 8);
        worth("10*min(1+1,3)-max(1,2*3)", 14);
    }

    static void promise12_sum_minute_0AtFirst_179AtLast() {
        SnowHouse x = Kit.ran("room a;who p in a;feel p minute-mood p when all;", 180);
        for (int m = 0; m < 180; m++) {
            KIT.due("minute", x.mood(0, m), m);
        }
    }

    static void promise12_sum_mood_ofAnyOne_asItIsThen() {
        String text = "room a;who p in a;who q in a;feel p 2 when all;feel q mood p when all;"
            + "feel p mood q when minute=1;";
        mood(text, 0, 2, 6, 8);
        mood(text, 1, 2, 8, 16);
    }

    static void promise12_sum_mood_ofTheDead_staysAsItWas() {
        mood(DEED + "feel q 7 when minute=0;feel s mood q when all;", 2, 7, 14, 21);
    }

    static void promise12_sum_asDeepAsItMayBe() {
        worth("1+2*(1+2*(1+2*(1+2*(1+2*(1+2*(1+2*(1+2*(3))))))))", 1023);
        worth("max(1+2*(1),max(2,min(9,1+1*max(1,min(9,1+2*max(1,min(8,3+4*(5-2*1))))))))", 9);
        mood("room a;who p in a;feel p 1 when [[[[1<2*(1+2*(1+2*(1+2*min(1,2)))) and 1<2]]]];", 0, 1);
    }
}
