/** Promises 23 to 26: what a finder can know of a victim: SPAN, COULD, LEAST, FAIR. */
public final class Promise23To26Test {
    private static final Kit KIT = new Kit();
    private static final int ANN = 1;
    private static final int BOB = 2;
    private static final int CAT = 4;
    private static final int DAN = 8;
    /** Ann fetches a knife, comes in minute 2 and kills Bob in minute 3; Cat and Dan sit in the hall. */
    private static final String MURDER = "room hall;room lib;room din;door hall lib;door lib din;"
        + "who ann in hall;who bob in din;who cat in hall;who dan in hall;thing knife in lib;"
        + "take ann knife when all;go ann lib when not has ann knife;go ann din when has ann knife;"
        + "kill ann bob knife when all;";
    private static final int[] NO_VICTIM = {-1, 4, 5, 8, 31, 32, Integer.MIN_VALUE, Integer.MAX_VALUE};
    private static final int[] NO_SET = {-1, 16, 17, 31, 256, Integer.MIN_VALUE, Integer.MAX_VALUE};

    public static void main(String[] args) throws Exception {
        KIT.cases(Promise23To26Test.class);
        KIT.close();
    }

    private static SnowHouse murder() {
        return Kit.ran(MURDER, 4);
    }

    private static void span(SnowHouse x, int victim, int asked, int first, int last) {
        KIT.due("span(" + victim + ", " + asked + ", false)", x.span(victim, asked, false), first);
        KIT.due("span(" + victim + ", " + asked + ", true)", x.span(victim, asked, true), last);
    }

    // ---- promise 23: span

    static void promise23_span_nobodyAsked_allMinutes() {
        span(Kit.ran(MURDER, 4), 1, 0, 0, 3);
        span(Kit.ran(MURDER, 9), 1, 0, 0, 8);
        span(Kit.ran(MURDER, 180), 1, 0, 0, 179);
    }

    static void promise23_span_ofOneWhoSawNothing_allMinutes() {
        span(Kit.ran(MURDER, 9), 1, CAT, 0, 8);
    }

    static void promise23_span_behindTheMinuteInWhichItWasSeenAlive() {
        SnowHouse x = Kit.ran(MURDER + "go dan din when minute<2;go dan hall when minute<4;", 6);
        // Dan is in the dining room at the end of minute 1 alone
        KIT.row("dan saw bob", m -> x.saw(3, 1, m), 0, 1, 0, 0, 0, 0);
        span(x, 1, DAN, 2, 5);
    }

    static void promise23_span_behindTheLastOfSeveralSuchMinutes() {
        SnowHouse x = Kit.ran("room a;room b;door a b;who w in a;who p in a;who v in a;thing k in a;take p k when all;"
            + "go w b when minute=1 or minute=3;go w a when minute=2;kill p v k when minute=4;", 7);
        KIT.row("w saw v", m -> x.saw(0, 2, m), 1, 0, 1, 0, 0, 0, 0);
        span(x, 2, 1, 3, 6);
    }

    static void promise23_span_ofSeveralAsked_theLastOfAllCounts() {
        SnowHouse x = Kit.ran("room a;room b;door a b;who w in a;who u in a;who p in a;who v in a;thing k in a;"
            + "take p k when all;go w b when minute=1;go u b when minute=3;kill p v k when all;", 7);
        span(x, 3, 1, 1, 6);
        span(x, 3, 2, 3, 6);
        span(x, 3, 3, 3, 6);
    }

    static void promise23_span_seenAliveInMinute0() {
        SnowHouse x = Kit.ran("room a;room b;door a b;who w in a;who p in a;who v in a;thing k in a;take p k when all;"
            + "go w b when minute=1;kill p v k when all;", 2);
        span(x, 2, 1, 1, 1);
    }

    static void promise23_span_upToTheFirstMinuteInWhichItWasSeenDead() {
        SnowHouse x = Kit.ran(MURDER + "go cat din when minute=4 or minute=5;go cat lib when minute=6;"
            + "go cat din when minute=7;", 9);
        KIT.row("cat saw bob", m -> x.saw(2, 1, m), 0, 0, 0, 0, 0, 2, 0, 2, 2);
        span(x, 1, CAT, 0, 5);
    }

    static void promise23_span_ofSeveralAsked_theFirstOfAllCounts() {
        SnowHouse x = Kit.ran(MURDER + "go cat din when minute=4 or minute=5;go dan din when minute>4;", 9);
        span(x, 1, CAT, 0, 5);
        span(x, 1, DAN, 0, 6);
        span(x, 1, CAT + DAN, 0, 5);
    }

    static void promise23_span_theKillerAsked_theMinuteOfTheDeed() {
        span(murder(), 1, ANN, 3, 3);
        span(Kit.ran(MURDER, 9), 1, ANN + CAT + DAN, 3, 3);
    }

    static void promise23_span_seenDeadInTheLastMinute() {
        SnowHouse x = Kit.ran(MURDER + "go cat din when minute=4 or minute=5;", 6);
        span(x, 1, CAT, 0, 5);
    }

    static void promise23_span_theVictimAsked_countsForNobody() {
        span(murder(), 1, BOB, 0, 3);
        span(murder(), 1, ANN + BOB, 3, 3);
    }

    /** v, killed in minute 1, and w, killed in minute 3, both by p; q looks after v in minute 2. */
    private static final String TWO_DEAD = "room a;room b;door a b;who v in a;who w in b;who p in a;who q in b;"
        + "thing k in a;take p k when all;kill p v k when all;go p b when dead v;kill p w k when at p b;"
        + "go q a when minute=2;";

    static void promise23_span_anotherDeadAsked_countsForNobody() {
        SnowHouse x = Kit.ran(TWO_DEAD, 5);
        KIT.due("deeds", x.has(7), 2);
        KIT.row("w and q sat together", m -> x.saw(1, 3, m), 1, 1, 0, 0, 0);
        // q saw w alive in minutes 0 and 1; v, dead, tells nothing
        span(x, 1, 1, 0, 4);
        span(x, 1, 8, 2, 4);
        span(x, 1, 1 + 8, 2, 4);
        // of v: w, who is dead, and p, who is not
        span(x, 0, 2, 0, 4);
        span(x, 0, 4, 1, 1);
    }

    static void promise23_span_whoDiesLaterStillTellsWhileItLives() {
        SnowHouse x = Kit.ran("room a;room b;door a b;who v in a;who w in a;who p in b;thing k in b;thing l in a;"
            + "take w l when all;kill w v l when all;take p k when all;go p a when minute=2;kill p w k when all;", 5);
        KIT.due("deeds", x.has(7), 2);
        span(x, 0, 2, 0, 4);
        x.run(3);
        span(x, 0, 2, 1, 1);
    }

    static void promise23_span_allWhoThereAre_isASet() {
        span(murder(), 1, 15, 3, 3);
    }

    static void promise23_span_aSetWithOneWhoIsNone_isNone() {
        for (int set : NO_SET) {
            span(murder(), 1, set, -1, -1);
        }
    }

    static void promise23_span_ofEightPeople_255IsASet_256IsNone() {
        SnowHouse x = Kit.ran(Promise08To12Test.sevenDeeds(), 20);
        span(x, 7, 255, 14, 14);
        span(x, 7, 256, -1, -1);
        span(x, 7, 0, 0, 19);
    }

    static void promise23_span_ofTheLiving_isNone() {
        for (int person : new int[] {0, 2, 3}) {
            span(murder(), person, 0, -1, -1);
        }
        span(Kit.ran(MURDER, 3), 1, 0, -1, -1);
    }

    static void promise23_span_noSuchPerson_isNone() {
        for (int victim : NO_VICTIM) {
            span(murder(), victim, 0, -1, -1);
        }
    }

    static void promise23_span_noEvening_isNone() {
        span(Kit.told(MURDER), 1, 0, -1, -1);
    }

    // ---- promise 24: could

    private static void could(SnowHouse x, int victim, int asked, int want) {
        KIT.due("could(" + victim + ", " + asked + ")", x.could(victim, asked, (1 << x.has(0)) - 1), want);
    }

    static void promise24_could_nobodyAsked_allButTheVictim() {
        could(murder(), 1, 0, ANN + CAT + DAN);
    }

    static void promise24_could_theVictimNever() {
        for (int set = 0; set < 16; set++) {
            KIT.due("bob", murder().could(1, set, 7) & BOB, 0);
        }
    }

    static void promise24_could_seenInAnotherRoomAllTheTime_isCleared() {
        could(murder(), 1, CAT, ANN + CAT);
        could(murder(), 1, DAN, ANN + DAN);
        could(murder(), 1, CAT + DAN, ANN);
    }

    static void promise24_could_nobodyClearsItself() {
        could(murder(), 1, ANN, ANN + CAT + DAN);
        KIT.due("cat", murder().could(1, CAT, 7) & CAT, CAT);
    }

    static void promise24_could_theDeadAsked_countForNobody() {
        could(murder(), 1, BOB, ANN + CAT + DAN);
        could(murder(), 1, BOB + CAT, ANN + CAT);
        SnowHouse x = Kit.ran(TWO_DEAD, 5);
        could(x, 1, 1 + 2, 1 + 4 + 8);
    }

    static void promise24_could_notSeenInOneMinuteOfTheSpan_isNotCleared() {
        // s steps out for one minute, and nobody sees it in c
        String text = "room a;room b;room c;door b c;who p in a;who v in a;who r in b;who s in b;thing k in a;"
            + "take p k when all;kill p v k when all;go s c when minute=#;go s b when minute>#;";
        for (int minute = 0; minute < 4; minute++) {
            could(Kit.ran(text.replace("#", "" + minute), 4), 1, 4, 1 + 4 + 8);
        }
        could(Kit.ran(text.replace("#", "4"), 4), 1, 4, 1 + 4);
    }

    static void promise24_could_notSeenOutOfTheSpan_isClearedAllTheSame() {
        // p, asked too, narrows the span to minute 1; s, gone in minute 0, is back at its end
        String text = "room a;room b;room c;door b c;who p in a;who v in a;who r in b;who s in b;thing k in a;"
            + "take p k when all;kill p v k when all;go s c when minute=#;go s b when minute>#;";
        could(Kit.ran(text.replace("#", "0"), 4), 1, 1 + 4, 1 + 4);
        could(Kit.ran(text.replace("#", "1"), 4), 1, 1 + 4, 1 + 4 + 8);
        could(Kit.ran(text.replace("#", "2"), 4), 1, 1 + 4, 1 + 4);
    }

    static void promise24_could_seenByOneNowAndByAnotherThen_isCleared() {
        String text = "room a;room b;room c;door b c;who p in a;who v in a;who r in b;who s in b;who t in c;"
            + "thing k in a;take p k when all;kill p v k when all;go s c when minute=2;";
        could(Kit.ran(text, 4), 1, 4, 1 + 4 + 8 + 16);
        could(Kit.ran(text, 4), 1, 16, 1 + 4 + 8 + 16);
        could(Kit.ran(text, 4), 1, 4 + 16, 1 + 4 + 16);
    }

    static void promise24_could_seenInTheRoomWhereItLiesDead_isNotCleared() {
        // x and y leave a in minute 1; v comes there, out of c, in minute 2
        String text = "room a;room b;room c;door a b;door a c;who p in a;who v in c;who x in a;who y in a;thing k in a;"
            + "take p k when all;go v a when minute=2;kill p v k when all;go x b when minute=#;go y b when minute=#;";
        SnowHouse x = Kit.ran(text.replace("#", "1"), 4);
        KIT.row("deed", what -> x.deed(0, what), 0, 1, 0, 3, 0);
        could(x, 1, 4, 1 + 4 + 8);
        SnowHouse y = Kit.ran(text.replace("#", "0"), 4);
        KIT.row("deed", what -> y.deed(0, what), 0, 1, 0, 3, 0);
        could(y, 1, 4, 1 + 4);
    }

    /** p kills d in minute 1 and v, who comes in minute 2, in minute 3, all in one room. */
    private static final String THREE = "room a;room b;door a b;who d in a;who p in a;who v in b;thing k in a;"
        + "take p k when all;kill p d k when all;kill p v k when all;go v a when minute=2;";

    static void promise24_could_seenDead_evenInTheVictimsRoom_isCleared() {
        SnowHouse x = Kit.ran(THREE, 4);
        KIT.due("deeds", x.has(7), 2);
        span(x, 2, 2, 3, 3);
        could(x, 2, 2, 2);
        could(x, 2, 0, 1 + 2);
    }

    static void promise24_could_theKillerAlways() {
        SnowHouse x = Kit.ran(Promise08To12Test.sevenDeeds(), 20);
        for (int victim = 1; victim < 8; victim++) {
            KIT.due("the killer of " + victim, x.could(victim, 255, 255) & 1, 1);
        }
    }

    static void promise24_could_itsRoomAloneLookedAt() {
        KIT.due("could", murder().could(1, CAT, 4), ANN + CAT);
        KIT.due("could", murder().could(1, CAT, 5), ANN + CAT);
        KIT.due("could", murder().could(1, CAT, 7), ANN + CAT);
    }

    static void promise24_could_itsRoomNotLookedAt_isNone() {
        for (int rooms = 0; rooms < 4; rooms++) {
            KIT.due("could in " + rooms, murder().could(1, CAT, rooms), -1);
        }
    }

    static void promise24_could_itsRoomIsWhereItIsDead_notWhereItWas() {
        SnowHouse x = Kit.ran("room a;room b;door a b;who p in a;who v in b;thing k in a;take p k when all;"
            + "go v a when minute=1;kill p v k when all;", 3);
        KIT.due("deed", x.deed(0, 4), 0);
        KIT.due("where it was", x.could(1, 0, 2), -1);
        KIT.due("where it is dead", x.could(1, 0, 1), 1);
    }

    /** v comes to a in minute 2, and p, whose turn is behind v's, kills it in that minute: the last one. */
    private static final String CAME = "room a;room b;door a b;who v in b;who p in a;who r in b;who s in b;"
        + "thing k in a;take p k when all;go v a when minute=2;kill p v k when all;";

    static void promise24_could_itsRoomIsWhereItCameInTheMinuteOfItsDeath() {
        SnowHouse x = Kit.ran(CAME, 3);
        KIT.row("v was", m -> x.was(0, m), 1, 1, 0);
        KIT.due("where it was", x.could(0, 0, 2), -1);
        KIT.due("where it is dead", x.could(0, 0, 1), 2 + 4 + 8);
        // r and s clear each other in b, out of which v came
        could(x, 0, 4 + 8, 2);
        least(x, 0, 2, 4 + 8);
    }

    static void promise24_could_seenWhereItLiesDead_inTheSpansLastMinuteAlone_isNotCleared() {
        // t and u sit together in b; if they come in minute 1, behind the deed, u sees t there
        String text = "room a;room b;door a b;who v in a;who p in a;who t in b;who u in b;thing k in a;"
            + "take p k when all;kill p v k when all;go t a when minute=#;go u a when minute=#;";
        could(Kit.ran(text.replace("#", "9"), 4), 0, 8, 2 + 8);
        could(Kit.ran(text.replace("#", "1"), 4), 0, 8, 2 + 4 + 8);
    }

    static void promise24_could_theEighthRoom() {
        SnowHouse x = Kit.ran(Promise08To12Test.sevenDeeds(), 20);
        KIT.due("looked at", x.could(7, 0, 128), 127);
        KIT.due("all others looked at", x.could(7, 0, 127), -1);
        KIT.due("all looked at", x.could(7, 0, 255), 127);
    }

    static void promise24_could_bitsOfNoRoom_isNone() {
        for (int rooms : new int[] {8, 12, 15, -1, Integer.MIN_VALUE, Integer.MAX_VALUE}) {
            KIT.due("could in " + rooms, murder().could(1, CAT, rooms), -1);
        }
    }

    static void promise24_could_aSetWithOneWhoIsNone_isNone() {
        for (int set : NO_SET) {
            KIT.due("could by " + set, murder().could(1, set, 7), -1);
        }
    }

    static void promise24_could_ofTheLiving_isNone() {
        for (int person : new int[] {0, 2, 3}) {
            KIT.due("could of " + person, murder().could(person, 0, 7), -1);
        }
        KIT.due("alive as yet", Kit.ran(MURDER, 3).could(1, 0, 7), -1);
    }

    static void promise24_could_noSuchPersonOrNoEvening_isNone() {
        for (int victim : NO_VICTIM) {
            KIT.due("could of " + victim, murder().could(victim, 0, 7), -1);
        }
        KIT.due("no evening", Kit.told(MURDER).could(1, 0, 7), -1);
    }

    // ---- promise 25: least

    private static void least(SnowHouse x, int victim, int fewest, int set) {
        KIT.due("least(" + victim + ", false)", x.least(victim, false), fewest);
        KIT.due("least(" + victim + ", true)", x.least(victim, true), set);
    }

    static void promise25_least_twoWhoClearEachOther() {
        least(murder(), 1, 2, CAT + DAN);
    }

    static void promise25_least_nobodyNeedBeAsked_is0AndTheEmptySet() {
        least(Kit.ran("room a;who p in a;who q in a;thing k in a;take p k when all;kill p q k when all;", 2), 1, 0, 0);
    }

    static void promise25_least_theKillerAlone() {
        // asked, it tells that d was dead
        least(Kit.ran(THREE, 4), 2, 1, 2);
    }

    static void promise25_least_ofLikeOnes_theLeastNumber() {
        least(Kit.ran("room a;room b;who p in a;who q in a;who r in b;who s in b;who t in b;thing k in a;"
            + "take p k when all;kill p q k when all;", 2), 1, 2, 4 + 8);
    }

    static void promise25_least_fewerAheadOfALesserNumber() {
        // the first four, asked, tell as much as the killer and two of them
        String text = "room a;room b;room c;door b c;who r in b;who s in b;who t in c;who u in c;who p in a;who v in a;"
            + "thing k in a;take p k when all;kill p v k when all;go t b when minute=1;go u b when minute=1;";
        SnowHouse x = Kit.ran(text, 2);
        could(x, 5, 15, 16);
        could(x, 5, 16 + 3, 16);
        least(x, 5, 3, 16 + 3);
    }

    static void promise25_least_theDeadAreNotAsked() {
        // w alone saw q in minute 1: known with w and q and p asked, but not when w is dead
        least(Kit.ran(TWO_DEAD, 3), 0, 3, 2 + 4 + 8);
        least(Kit.ran(TWO_DEAD, 5), 0, -1, -1);
    }

    static void promise25_least_neverKnown_isNone() {
        least(Kit.ran(MURDER + "room attic;who eve in attic;", 4), 1, -1, -1);
    }

    static void promise25_least_ofTheLiving_isNone() {
        for (int person : new int[] {0, 2, 3}) {
            least(murder(), person, -1, -1);
        }
        least(Kit.ran(MURDER, 3), 1, -1, -1);
    }

    static void promise25_least_noSuchPersonOrNoEvening_isNone() {
        for (int victim : NO_VICTIM) {
            least(murder(), victim, -1, -1);
        }
        least(Kit.told(MURDER), 1, -1, -1);
    }

    static void promise25_least_ofEightPeople() {
        // six sit in b: any two of them will do
        least(Kit.ran("room a;room b;" + Kit.many("who r# in b;", 6) + "who p in a;who v in a;thing k in a;"
            + "take p k when all;kill p v k when all;", 2), 7, 2, 3);
        // the killer is the first; the seventh and the eighth must be asked
        least(Kit.ran("room a;room b;room c;who p in a;who v in a;who d in c;who e in c;thing k in a;thing l in c;"
            + "take p k when all;kill p v k when all;", 2), 1, 2, 4 + 8);
    }

    // ---- promise 26: fair

    static void promise26_fair_knownIfAllAreAsked_is1() {
        KIT.due("fair", murder().fair(1), 1);
        KIT.due("by two", Kit.ran("room a;who p in a;who q in a;thing k in a;take p k when all;kill p q k when all;", 2)
            .fair(1), 1);
    }

    static void promise26_fair_twoCould_is0() {
        KIT.due("fair", Kit.ran(MURDER + "room attic;who eve in attic;", 4).fair(1), 0);
        KIT.due("one left alone", Kit.ran(MURDER + "go dan lib when minute=3;", 4).fair(1), 0);
    }

    static void promise26_fair_theDeadAreNotAsked() {
        // w alone saw q in minute 1, and is dead in the end
        KIT.due("while w lives", Kit.ran(TWO_DEAD, 3).fair(0), 1);
        KIT.due("fair", Kit.ran(TWO_DEAD, 5).fair(0), 0);
    }

    static void promise26_fair_ofTheLiving_isNone() {
        for (int person : new int[] {0, 2, 3}) {
            KIT.due("fair(" + person + ")", murder().fair(person), -1);
        }
        KIT.due("alive as yet", Kit.ran(MURDER, 3).fair(1), -1);
    }

    static void promise26_fair_noSuchPersonOrNoEvening_isNone() {
        for (int victim : NO_VICTIM) {
            KIT.due("fair(" + victim + ")", murder().fair(victim), -1);
        }
        KIT.due("no evening", Kit.told(MURDER).fair(1), -1);
    }

    static void promise23To26_eachQuestionByItself_whateverWasAskedAhead() {
        SnowHouse x = Kit.ran(TWO_DEAD, 5);
        for (int i = 0; i < 2; i++) {
            span(x, 1, 8, 2, 4);
            KIT.due("fair", x.fair(0), 0);
            could(x, 1, 1 + 2, 1 + 4 + 8);
            span(x, 0, 4, 1, 1);
            x.fairest(0);
            least(x, 1, -1, -1);
            could(x, 0, 4, 4 + 2 + 8);
        }
    }}
