/** Promises 27 and 28: claims, lies, and who catches them. */
public final class Promise27To28Test {
    private static final Kit KIT = new Kit();
    /** Ann: library in minutes 0 and 1, dining room from 2 on, where she kills Bob in minute 3. */
    private static final String MURDER = "room hall;room lib;room din;door hall lib;door lib din;"
        + "who ann in hall;who bob in din;who cat in hall;who dan in hall;thing knife in lib;"
        + "take ann knife when all;go ann lib when not has ann knife;go ann din when has ann knife;"
        + "kill ann bob knife when all;";
    /** p leaves a for b in minute 2; q and r are in b, s and t in a. */
    private static final String MEETING = "room a;room b;door a b;who p in a;who q in b;who r in b;who s in a;"
        + "who t in a;go p b when minute=2;";
    private static final int[] NO_CLAIM = {-1, 1, 2, 12, 32, Integer.MIN_VALUE, Integer.MAX_VALUE};

    public static void main(String[] args) throws Exception {
        KIT.cases(Promise27To28Test.class);
        KIT.close();
    }

    /** The answers about the only claim that is told behind a text. */
    private static void said(String text, String says, int minutes, int claim, int who, int minute) {
        SnowHouse x = Kit.ran(text + "says " + says + ";", minutes);
        KIT.due(says + ": claim", x.claim(0), claim);
        KIT.due(says + ": caught by", x.caught(0, true), who);
        KIT.due(says + ": caught in", x.caught(0, false), minute);
    }

    private static void isTrue(String text, String says, int minutes) {
        said(text, says, minutes, 0, -1, -1);
    }

    private static void isALieNotCaught(String text, String says, int minutes) {
        said(text, says, minutes, 1, -1, -1);
    }

    // ---- promise 27: claim

    static void promise27_claim_inThatRoomInEachOfItsMinutes_isTrue() {
        isTrue(MURDER, "cat hall 0 3", 4);
        isTrue(MURDER, "ann lib 0 1", 4);
        isTrue(MURDER, "ann din 2 3", 4);
        isTrue(MURDER, "ann lib 1 1", 4);
    }

    static void promise27_claim_notInItsFirstMinute_isALie() {
        isALieNotCaught(MURDER, "ann din 1 3", 4);
        isALieNotCaught(MURDER, "ann hall 0 0", 4);
    }

    static void promise27_claim_notInItsLastMinute_isALie() {
        isALieNotCaught(MURDER, "ann lib 0 2", 4);
        isALieNotCaught(MURDER, "ann lib 1 2", 4);
    }

    static void promise27_claim_notInOneMinuteBetween_isALie() {
        String text = "room a;room b;door a b;who p in a;go p b when minute=2;go p a when minute=3;";
        isALieNotCaught(text, "p a 0 5", 6);
        isALieNotCaught(text, "p a 2 2", 6);
        isTrue(text, "p a 0 1", 6);
        isTrue(text, "p a 3 5", 6);
    }

    static void promise27_claim_atTheEndOfAMinute_notAheadOfIt() {
        isALieNotCaught(MURDER, "ann hall 0 0", 4);
        isTrue(MURDER, "ann lib 0 0", 4);
    }

    static void promise27_claim_theMinutesThatTheEveningHasAlone() {
        isTrue(MURDER, "cat hall 0 179", 4);
        isTrue(MURDER, "ann lib 0 179", 2);
        isALieNotCaught(MURDER, "ann lib 0 179", 4);
    }

    static void promise27_claim_noMinuteThatTheEveningHas_isTrue() {
        isTrue(MURDER, "ann hall 4 4", 4);
        isTrue(MURDER, "ann hall 100 179", 4);
        isTrue(MURDER, "bob lib 1 1", 1);
    }

    static void promise27_claim_minute179OfTheLongestEvening() {
        String text = "room a;room b;door a b;who p in a;go p b when minute=179;";
        isALieNotCaught(text, "p a 0 179", 180);
        isTrue(text, "p a 0 178", 180);
        isTrue(text, "p b 179 179", 180);
    }

    static void promise27_claim_ofTheDead() {
        isTrue(MURDER, "bob din 0 179", 8);
        said(MURDER, "bob hall 0 179", 8, 2, 0, 2);
    }

    static void promise27_claim_aLieThatIsCaught_is2() {
        said(MEETING, "p a 0 9", 4, 2, 1, 2);
    }

    static void promise27_claim_noEvening_isNone() {
        SnowHouse x = Kit.told(MURDER + "says cat hall 0 3;");
        KIT.due("claim", x.claim(0), -1);
        KIT.due("caught", x.caught(0, true), -1);
    }

    static void promise27_claim_noSuchClaim_isNone() {
        SnowHouse x = Kit.ran(MURDER + "says cat hall 0 3;", 4);
        for (int k : NO_CLAIM) {
            KIT.due("claim(" + k + ")", x.claim(k), -1);
        }
    }

    static void promise27_claim_allTwelve() {
        SnowHouse x = Kit.ran(MEETING + Kit.many("says p b 0 1;", 11) + "says p a 0 1;", 4);
        KIT.row("claim", x::claim, 2, 2, 2, 2, 2, 2, 2, 2, 2, 2, 2, 0, -1);
    }

    // ---- promise 28: caught

    static void promise28_caught_byWhomAndInWhichMinute() {
        said(MEETING, "p b 0 9", 5, 2, 3, 0);
        said(MEETING, "p a 0 9", 5, 2, 1, 2);
    }

    static void promise28_caught_theFirstMinute_aheadOfALesserNumber() {
        // t, the last one, saw it in a in minute 0; q saw it in c only in minute 3
        said("room a;room b;room c;door a c;who p in a;who q in c;who t in a;go p c when minute=3;", "p b 0 9", 5,
            2, 2, 0);
    }

    static void promise28_caught_ofLikeOnes_theLeastNumber() {
        said(MEETING, "p a 2 9", 5, 2, 1, 2);
        said(MEETING, "s b 0 0", 5, 2, 0, 0);
        said(MEETING, "s b 2 2", 5, 2, 4, 2);
    }

    static void promise28_caught_notByItself() {
        isALieNotCaught("room a;room b;who p in a;who q in b;", "p b 0 9", 3);
        said("room a;room b;who p in a;who q in a;", "p b 0 9", 3, 2, 1, 0);
    }

    static void promise28_caught_notByOneWhoSawItInThatRoom() {
        isALieNotCaught("room a;room b;room c;door a c;who p in a;who q in a;go p c when minute=1;", "p a 0 9", 3);
    }

    static void promise28_caught_notByOneWhoDidNotSeeIt() {
        // q sits in the room that p tells of, and sees that p is not there; but it did not see p
        isALieNotCaught("room a;room b;who p in a;who q in b;", "p b 0 2", 3);
    }

    static void promise28_caught_inOneOfItsMinutesAlone() {
        // ahead of minute 2 they meet in a, behind minute 3 again
        String text = "room a;room b;room c;door a c;who p in a;who q in a;go p c when minute=2;go p a when minute=4;";
        isALieNotCaught(text, "p b 2 3", 6);
        said(text, "p b 1 3", 6, 2, 1, 1);
        said(text, "p b 2 4", 6, 2, 1, 4);
        said(text, "p b 0 179", 6, 2, 1, 0);
    }

    static void promise28_caught_inMinutesThatTheEveningHas() {
        said(MEETING, "p a 0 179", 3, 2, 1, 2);
        isTrue(MEETING, "p a 0 179", 2);
        isTrue(MEETING, "p a 3 179", 3);
    }

    static void promise28_caught_inTheLastMinute() {
        said(MEETING, "p a 2 2", 3, 2, 1, 2);
    }

    static void promise28_caught_notByOneWhoIsDeadInTheEnd() {
        // Bob alone saw Ann in the dining room, in minute 2
        isALieNotCaught(MURDER, "ann hall 0 3", 4);
        said(MURDER, "ann hall 0 3", 3, 2, 1, 2);
        isALieNotCaught(MURDER, "ann lib 1 2", 4);
    }

    static void promise28_caught_theFirstPersonDead_isNotCounted() {
        // v, who saw q in a in minute 0, is killed; q is not caught by it, nor by the killer, who was away
        String text = "room a;room b;door a b;who v in a;who q in a;who p in b;thing k in b;take p k when all;"
            + "go q b when minute=1;go p a when minute=1;kill p v k when all;";
        said(text, "q b 0 0", 2, 2, 0, 0);
        isALieNotCaught(text, "q b 0 0", 4);
    }

    static void promise28_caught_whoIsDeadMayBeSeenToo() {
        said(MURDER, "bob hall 3 3", 4, 2, 0, 3);
        said(MURDER + "go dan din when minute=4 or minute=5;", "bob hall 5 5", 6, 2, 0, 5);
    }

    static void promise28_caught_ofATrueClaim_isNone() {
        isTrue(MEETING, "s a 0 9", 5);
        isTrue(MEETING, "p b 2 9", 5);
    }

    static void promise28_caught_inAnEveningOf1Minute() {
        said(MEETING, "p b 0 0", 1, 2, 3, 0);
        said(MEETING, "p b 0 179", 1, 2, 3, 0);
        isTrue(MEETING, "p b 1 1", 1);
    }

    static void promise28_caught_noSuchClaimOrNoEvening_isNone() {
        SnowHouse x = Kit.ran(MEETING + "says p b 0 3;", 4);
        KIT.due("there is one", x.caught(0, true), 3);
        for (int k : NO_CLAIM) {
            KIT.due("caught(" + k + ", true)", x.caught(k, true), -1);
            KIT.due("caught(" + k + ", false)", x.caught(k, false), -1);
        }
        SnowHouse y = Kit.told(MEETING + "says p b 0 3;");
        KIT.due("no evening", y.caught(0, true), -1);
        KIT.due("no evening", y.caught(0, false), -1);
    }

    static void promise28_caught_byTheEighth_inMinute179() {
        said("room a;room b;" + Kit.many("who r# in b;", 7) + "who h in a;door a b;go ra a when minute=179;",
            "ra b 0 179", 180, 2, 7, 179);
    }
}
