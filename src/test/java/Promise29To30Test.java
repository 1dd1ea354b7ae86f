/** Promises 29 and 30: the least change that spares all, and the fairest evening. */
public final class Promise29To30Test {
    private static final Kit KIT = new Kit();
    private static final String PAIRS = "room a;room b;who p in a;who q in #;who r in b;who s in b;thing k in a;"
        + "take p k when all;kill p q k when all;";
    private static final int[] ODD = {-1, 4, 5, Integer.MIN_VALUE, Integer.MAX_VALUE};

    public static void main(String[] args) throws Exception {
        KIT.cases(Promise29To30Test.class);
        KIT.close();
    }

    private static void spare(SnowHouse x, int sort, int number, int room) {
        KIT.row("spare", x::spare, sort, number, room);
    }

    private static void noneSpares(SnowHouse x) {
        spare(x, -1, -1, -1);
    }

    private static void fairest(SnowHouse x, int sort, int number, int room, int least) {
        KIT.row("fairest", x::fairest, sort, number, room, least);
    }

    private static void noneFairest(SnowHouse x) {
        fairest(x, -1, -1, -1, -1);
    }

    private static String twice(String rules) {
        return rules + rules;
    }

    // ---- promise 29: spare

    static void promise29_spare_theFirstRuleWithoutWhichNoDeedIs() {
        spare(Kit.ran("room a;room b;who p in a;who q in a;thing k in a;wipe p when not all;take p k when all;"
            + "kill p q k when all;", 2), 0, 1, -1);
    }

    static void promise29_spare_rulesAheadOfPersonsAndThings() {
        // p, beginning in b, would spare q, too, and so would the thing
        spare(Kit.ran(PAIRS.replace('#', 'a'), 2), 0, 0, -1);
    }

    static void promise29_spare_theLastRule() {
        spare(Kit.ran("room a;who p in a;who q in a;thing k in a;" + twice("take p k when all;")
            + "kill p q k when all;", 2), 0, 2, -1);
    }

    static void promise29_spare_noRule_theFirstPersonAndRoom() {
        SnowHouse x = Kit.ran("room hall;room lib;room din;door hall lib;door lib din;who ann in hall;who bob in din;"
            + "thing knife in lib;" + twice("take ann knife when all;go ann lib when not has ann knife;"
            + "go ann din when has ann knife;kill ann bob knife when all;"), 4);
        spare(x, 1, 1, 0);
    }

    static void promise29_spare_ofRooms_theFirst() {
        spare(Kit.ran("room a;room b;room c;who p in a;who q in a;thing k in a;"
            + twice("take p k when all;kill p q k when all;"), 2), 1, 0, 1);
        spare(Kit.ran("room c;room b;room a;who p in a;who q in a;thing k in a;"
            + twice("take p k when all;kill p q k when all;"), 2), 1, 0, 0);
    }

    static void promise29_spare_noPerson_theFirstThingAndRoom() {
        spare(Kit.ran("room a;room b;door a b;who p in a;who q in a;thing c in a;thing k in a;"
            + twice("take p k when all;kill p q k when all;go p a when at q a;go p b when at q b;"), 3), 2, 1, 1);
    }

    static void promise29_spare_nothingSpares_isNone() {
        SnowHouse x = Kit.ran("room a;who p in a;who q in a;thing k in a;"
            + twice("take p k when all;kill p q k when all;"), 2);
        KIT.due("deeds", x.has(7), 1);
        noneSpares(x);
    }

    static void promise29_spare_anEveningWithoutADeed_isNone() {
        noneSpares(Kit.ran(PAIRS.replace('#', 'a'), 1));
        noneSpares(Kit.ran(PAIRS.replace('#', 'b'), 9));
    }

    static void promise29_spare_noEvening_isNone() {
        noneSpares(Kit.told(PAIRS.replace('#', 'a')));
        noneSpares(new SnowHouse());
    }

    static void promise29_spare_other_isNone() {
        SnowHouse x = Kit.ran(PAIRS.replace('#', 'a'), 2);
        for (int what : ODD) {
            KIT.due("spare(" + what + ")", x.spare(what), -1);
        }
        KIT.due("spare(3)", x.spare(3), -1);
    }

    static void promise29_spare_allDeeds_notOneAlone() {
        // without the second rule q lives, but r dies all the same; without the first both live
        SnowHouse x = Kit.ran("room a;room b;door a b;who p in a;who q in a;who r in b;thing k in a;"
            + "wipe p when not all;kill p q k when all;take p k when all;kill p r k when all;go p b when minute>1;", 6);
        KIT.due("deeds", x.has(7), 2);
        spare(x, 0, 2, -1);
    }

    static void promise29_spare_anEveningOfAsManyMinutes() {
        // each change but delays the deed, until the evening is long enough
        String text = "room a;room b;room c;room d;door a b;door b c;door c d;who p in a;who q in c;thing k in a;"
            + twice("take p k when all;kill p q k when all;") + twice("go p a when not has p k;go p d when has p k;");
        spare(Kit.ran(text, 4), 1, 0, 1);
        spare(Kit.ran(text, 5), 1, 0, 2);
        spare(Kit.ran(text, 6), 1, 0, 3);
        spare(Kit.ran(text, 7), 2, 0, 1);
    }

    static void promise29_spare_aRuleLeftOutInTheEvening_staysSo() {
        SnowHouse x = Kit.told("room a;who p in a;who q in a;thing k in a;"
            + twice("take p k when all;kill p q k when all;"));
        x.skip(0, true);
        KIT.due("run", x.run(2), 1);
        spare(x, 0, 2, -1);
    }

    static void promise29_spare_oneChangeMore_thanTheEveningHad() {
        SnowHouse x = Kit.told("room a;room b;who p in a;who q in b;thing k in b;"
            + twice("take p k when all;kill p q k when all;"));
        x.begin(0, 1);
        x.run(2);
        spare(x, 1, 0, 0);
        x.begin(0, 0);
        x.begin(1, 0);
        x.put(0, 0);
        x.run(2);
        spare(x, 1, 0, 1);
    }

    static void promise29_spare_changesBehindTheEvening_doNotCount() {
        SnowHouse x = Kit.ran(PAIRS.replace('#', 'a'), 2);
        x.begin(1, 1);
        x.skip(0, true);
        x.put(0, 1);
        spare(x, 0, 0, -1);
        x.anew();
        spare(x, 0, 0, -1);
    }

    static void promise29_spare_ofTheLatestEvening() {
        SnowHouse x = Kit.ran(PAIRS.replace('#', 'a'), 2);
        spare(x, 0, 0, -1);
        x.begin(1, 1);
        x.run(2);
        noneSpares(x);
        x.anew();
        x.run(2);
        spare(x, 0, 0, -1);
        Kit.text(x, PAIRS.replace('#', 'a'));
        noneSpares(x);
        x.run(2);
        spare(x, 0, 0, -1);
        KIT.due("a refused evening", x.run(0), -1);
        spare(x, 0, 0, -1);
    }

    static void promise29_spare_the30thRule() {
        SnowHouse x = Kit.ran("room a;who p in a;who q in a;thing k in a;" + Kit.many("take p k when all;", 29)
            + "kill p q k when all;", 2);
        spare(x, 0, 29, -1);
    }

    static void promise29_spare_theEveningAndTheBreakfastStay() {
        SnowHouse x = Kit.told(PAIRS.replace('#', 'b'));
        x.begin(1, 0);
        x.run(2);
        x.spare(0);
        KIT.due("deeds", x.has(7), 1);
        KIT.due("was", x.was(1, 1), 0);
        KIT.due("run", x.run(2), 1);
    }

    // ---- both, held against each change tried by itself

    private static final String[] HOUSES = {PAIRS.replace('#', 'a'), PAIRS.replace('#', 'b'),
        "room hall;room lib;room din;door hall lib;door lib din;who ann in hall;who bob in din;who cat in hall;"
            + "who dan in hall;thing knife in lib;thing cup in din;take ann knife when all;"
            + "go ann lib when not has ann knife;go ann din when has ann knife;kill ann bob knife when all;"
            + "kill dan ann cup when all;go dan din when dead bob;take dan cup when minute>3;",
        "room a;room b;door a b;who d in a;who p in a;who v in b;who s in b;thing k in a;take p k when all;"
            + "kill p d k when all;kill p v k when all;go v a when minute=2;",
        "room a;room b;room c;door a b;door b c;who p in a;who q in c;who r in b;who s in b;thing k in a;thing l in c;"
            + "take p k when all;take q l when all;go p c when has p k;go q a when has q l;"
            + "kill p q k when alone q or all;kill q p l when all;go r a when minute>2;go s a when minute>2;",
        Promise08To12Test.sevenDeeds()};

    /** The evening after one change: of a rule (sort 0), a person (1), a thing (2). */
    private static SnowHouse changed(String text, int minutes, int sort, int number, int room) {
        SnowHouse x = Kit.told(text);
        if (sort == 0) {
            x.skip(number, true);
        } else if (sort == 1) {
            x.begin(number, room);
        } else {
            x.put(number, room);
        }
        x.run(minutes);
        return x;
    }

    /** What spare() (fairest false) or fairest() must answer, by trying all changes. */
    private static int[] tried(String text, int minutes, boolean fairest) {
        SnowHouse house = Kit.told(text);
        int[] best = {-1, -1, -1, -1};
        for (int sort = fairest ? 1 : 0; sort < 3; sort++) {
            for (int number = 0; number < house.has(sort == 0 ? 4 : sort + 1); number++) {
                for (int room = 0; room < (sort == 0 ? 1 : house.has(0)); room++) {
                    SnowHouse x = changed(text, minutes, sort, number, room);
                    int told = sort == 0 ? -1 : room;
                    int worth = fairest ? x.has(7) == 1 ? x.least(x.deed(0, 1), false) : -1 : x.has(7) == 0 ? 0 : -1;
                    if (worth > best[3]) {
                        best = new int[] {sort, number, told, worth};
                    }
                }
            }
        }
        return best;
    }

    static void promise29_spare_asIfEachChangeWereTried() {
        for (String text : HOUSES) {
            for (int minutes = 1; minutes < 12; minutes++) {
                SnowHouse x = Kit.ran(text, minutes);
                int[] want = tried(text, minutes, false);
                boolean deed = x.has(7) > 0;
                KIT.row("spare, " + minutes + " minutes of " + text, x::spare, deed ? want[0] : -1,
                    deed ? want[1] : -1, deed ? want[2] : -1);
            }
        }
    }

    static void promise30_fairest_asIfEachChangeWereTried() {
        for (String text : HOUSES) {
            for (int minutes = 1; minutes < 12; minutes++) {
                KIT.row("fairest, " + minutes + " minutes of " + text, Kit.ran(text, minutes)::fairest,
                    tried(text, minutes, true));
            }
        }
    }

    // ---- promise 30: fairest

    static void promise30_fairest_aChangeThatChangesNothing_isOne() {
        fairest(Kit.ran(PAIRS.replace('#', 'a'), 2), 1, 0, 0, 2);
    }

    static void promise30_fairest_ofAnEveningWithoutADeed() {
        SnowHouse x = Kit.ran(PAIRS.replace('#', 'b'), 2);
        KIT.due("deeds", x.has(7), 0);
        fairest(x, 1, 1, 0, 2);
    }

    static void promise30_fairest_theGreatestLeast_notTheFirst() {
        // t, beginning in c, is seen in b in minute 1 alone: the killer must be asked, too
        SnowHouse x = Kit.ran("room a;room b;room c;door b c;who r in b;who s in b;who t in b;who p in a;who v in a;"
            + "thing k in a;go t b when minute=1;take p k when all;kill p v k when all;", 2);
        KIT.due("as it is", x.least(4, false), 2);
        fairest(x, 1, 2, 2, 3);
    }

    static void promise30_fairest_ofLikeOnes_theFirst() {
        // nobody but the two: wherever the second thing lies, LEAST is 0
        fairest(Kit.ran("room a;room b;who p in b;who q in b;thing c in a;thing k in b;take p k when all;"
            + "kill p q k when all;", 2), 1, 0, 1, 0);
    }

    static void promise30_fairest_aThing() {
        SnowHouse x = Kit.ran("room a;room b;who p in a;who q in a;thing c in a;thing k in b;"
            + "take p k when all;kill p q k when all;", 2);
        KIT.due("deeds", x.has(7), 0);
        fairest(x, 2, 1, 0, 0);
    }

    static void promise30_fairest_least0_isTold() {
        fairest(Kit.ran("room a;who p in a;who q in a;thing k in a;take p k when all;kill p q k when all;", 2),
            1, 0, 0, 0);
    }

    static void promise30_fairest_noRuleIsLeftOut() {
        // if q did not flee, p would kill it; but that is no change of a person or a thing
        SnowHouse x = Kit.ran("room a;room b;door a b;who p in a;who q in a;thing k in a;go q b when minute=0;"
            + "take p k when all;kill p q k when all;", 3);
        KIT.due("deeds", x.has(7), 0);
        noneFairest(x);
        x.skip(0, true);
        KIT.due("deeds", x.run(3), 1);
    }

    static void promise30_fairest_unfairOnes_areNot() {
        SnowHouse x = Kit.ran("room a;room b;room c;who p in a;who q in a;who r in b;who s in b;who t in c;"
            + "thing k in a;take p k when all;kill p q k when all;", 2);
        KIT.due("not fair as it is", x.fair(1), 0);
        fairest(x, 1, 4, 1, 2);
    }

    static void promise30_fairest_unfairOnesAlone_isNone() {
        SnowHouse x = Kit.ran("room a;room b;who p in a;who q in a;who r in b;thing k in a;take p k when all;"
            + "kill p q k when all;", 2);
        KIT.due("deeds", x.has(7), 1);
        KIT.due("r could, too", x.fair(1), 0);
        noneFairest(x);
    }

    static void promise30_fairest_noDeed_isNone() {
        noneFairest(Kit.ran("room a;who p in a;who q in a;who r in a;thing k in a;thing l in a;", 3));
        noneFairest(Kit.ran(PAIRS.replace('#', 'a'), 1));
    }

    static void promise30_fairest_twoDeeds_areOneTooMany() {
        SnowHouse x = Kit.ran("room a;room b;door a b;who p in a;who q in a;who r in b;thing k in a;take p k when all;"
            + "kill p q k when all;go p b when dead q;kill p r k when all;", 4);
        KIT.due("deeds", x.has(7), 2);
        noneFairest(x);
        // with r in a from the first, p is never alone with q; with q in b, neither
        KIT.due("one deed", x.run(3), 1);
        KIT.due("fair, then", x.fair(1), 0);
    }

    static void promise30_fairest_anEveningOfAsManyMinutes() {
        SnowHouse x = Kit.told("room a;room b;room c;door a b;door b c;who p in a;who q in b;thing k in a;"
            + "take p k when all;kill p q k when all;go p c when has p k;");
        x.run(2);
        fairest(x, 1, 1, 0, 0);
        x.run(3);
        fairest(x, 1, 0, 0, 0);
    }

    static void promise30_fairest_noEvening_isNone() {
        noneFairest(Kit.told(PAIRS.replace('#', 'a')));
        noneFairest(new SnowHouse());
    }

    static void promise30_fairest_other_isNone() {
        SnowHouse x = Kit.ran(PAIRS.replace('#', 'a'), 2);
        for (int what : ODD) {
            KIT.due("fairest(" + what + ")", x.fairest(what), -1);
        }
    }

    static void promise30_fairest_aRuleLeftOutInTheEvening_staysSo() {
        SnowHouse x = Kit.told(PAIRS.replace('#', 'a'));
        x.skip(0, true);
        x.run(2);
        noneFairest(x);
        x.skip(0, false);
        noneFairest(x);
    }

    static void promise30_fairest_oneChangeMore_thanTheEveningHad() {
        SnowHouse x = Kit.told(PAIRS.replace('#', 'b').replace("thing k in a", "thing k in b"));
        x.run(2);
        noneFairest(x);
        x.begin(1, 0);
        x.run(2);
        fairest(x, 2, 0, 0, 2);
    }

    static void promise30_fairest_changesBehindTheEvening_doNotCount() {
        SnowHouse x = Kit.ran(PAIRS.replace('#', 'a'), 2);
        x.begin(1, 1);
        x.skip(0, true);
        x.put(0, 1);
        fairest(x, 1, 0, 0, 2);
        x.anew();
        fairest(x, 1, 0, 0, 2);
    }

    static void promise30_fairest_ofTheLatestEvening() {
        SnowHouse x = Kit.ran(PAIRS.replace('#', 'a'), 2);
        fairest(x, 1, 0, 0, 2);
        x.skip(0, true);
        x.run(2);
        noneFairest(x);
        KIT.due("a refused evening", x.run(181), -1);
        noneFairest(x);
        x.anew();
        x.begin(1, 1);
        x.run(2);
        fairest(x, 1, 1, 0, 2);
        Kit.text(x, "room a;");
        noneFairest(x);
        x.run(2);
        noneFairest(x);
    }

    static void promise30_fairest_theEveningAndTheBreakfastStay() {
        SnowHouse x = Kit.told(PAIRS.replace('#', 'b'));
        x.begin(1, 0);
        x.run(2);
        x.fairest(0);
        KIT.due("deeds", x.has(7), 1);
        KIT.due("was", x.was(1, 1), 0);
        KIT.due("fair", x.fair(1), 1);
        KIT.due("run", x.run(2), 1);
    }
}
