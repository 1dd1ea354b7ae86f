/** Promise 22: without which rules a deed would not have been. */
public final class Promise22Test {
    private static final Kit KIT = new Kit();
    private static final String MURDER = "room hall;room lib;room din;door hall lib;door lib din;who ann in hall;"
        + "who bob in din;thing knife in lib;take ann knife when all;go ann lib when not has ann knife;"
        + "go ann din when has ann knife;kill ann bob knife when all;wipe ann when dead bob;"
        + "lay ann knife when dead bob;";
    /** Two rules to kill by, the one a minute later than the other. */
    private static final String TWO = "room a;who p in a;who q in a;thing k in a;take p k when all;"
        + "kill p q k when minute>1;kill p q k when minute>2;take p k when minute>8;";

    public static void main(String[] args) throws Exception {
        KIT.cases(Promise22Test.class);
        KIT.close();
    }

    static void promise22_needed_1And0() {
        SnowHouse x = Kit.ran(MURDER, 8);
        KIT.row("needed", rule -> x.needed(rule, 0), 1, 1, 1, 1, 0, 0);
    }

    static void promise22_needed_noSuchRule_isNone() {
        SnowHouse x = Kit.ran(MURDER, 8);
        for (int rule : new int[] {-1, 6, 30, 32, Integer.MIN_VALUE, Integer.MAX_VALUE}) {
            KIT.due("needed(" + rule + ", 0)", x.needed(rule, 0), -1);
        }
    }

    static void promise22_needed_noSuchDeed_isNone() {
        SnowHouse x = Kit.ran(MURDER, 8);
        for (int k : new int[] {-1, 1, 7, 8, Integer.MIN_VALUE, Integer.MAX_VALUE}) {
            KIT.due("needed(0, " + k + ")", x.needed(0, k), -1);
        }
    }

    static void promise22_needed_noDeedOrNoEvening_isNone() {
        KIT.due("no deed", Kit.ran(MURDER, 3).needed(0, 0), -1);
        KIT.due("no evening", Kit.told(MURDER).needed(0, 0), -1);
    }

    static void promise22_needed_anotherRuleKillsLater_is0() {
        SnowHouse x = Kit.ran(TWO, 4);
        KIT.row("needed", rule -> x.needed(rule, 0), 1, 0, 0, 0);
    }

    static void promise22_needed_anEveningOfAsManyMinutes() {
        SnowHouse x = Kit.ran(TWO, 3);
        KIT.row("the other one comes too late", rule -> x.needed(rule, 0), 1, 1, 0, 0);
    }

    static void promise22_needed_aRuleThatIsLeftOut_is0() {
        SnowHouse x = Kit.told(TWO);
        x.skip(1, true);
        x.run(4);
        KIT.due("killed by the other one", x.deed(0, 5), 2);
        KIT.row("needed", rule -> x.needed(rule, 0), 1, 0, 1, 0);
    }

    static void promise22_needed_changesBehindTheEvening_doNotCount() {
        SnowHouse x = Kit.ran(TWO, 4);
        x.skip(0, true);
        x.skip(2, true);
        KIT.row("needed", rule -> x.needed(rule, 0), 1, 0, 0, 0);
        SnowHouse y = Kit.told(TWO);
        y.skip(1, true);
        y.run(4);
        y.anew();
        KIT.row("needed", rule -> y.needed(rule, 0), 1, 0, 1, 0);
    }

    static void promise22_needed_changesOfTheEvening_count() {
        SnowHouse x = Kit.told(MURDER);
        x.begin(0, 1);
        x.run(8);
        KIT.row("she need not go to the library", rule -> x.needed(rule, 0), 1, 0, 1, 1, 0, 0);
        x.put(0, 2);
        x.begin(0, 2);
        x.run(8);
        KIT.row("nor anywhere", rule -> x.needed(rule, 0), 1, 0, 0, 1, 0, 0);
    }

    static void promise22_needed_withAnotherThing_is0() {
        SnowHouse x = Kit.ran("room a;who p in a;who q in a;thing k in a;thing l in a;take p k when all;"
            + "take p l when all;kill p q k when all;kill p q l when all;", 6);
        KIT.due("killed with k", x.deed(0, 2), 0);
        KIT.row("needed", rule -> x.needed(rule, 0), 0, 0, 0, 0);
    }

    static void promise22_needed_sameVictimByAnotherKiller_is1() {
        SnowHouse x = Kit.ran("room a;room b;door a b;who p in a;who q in a;who r in b;thing k in a;thing l in b;"
            + "take p k when all;kill p q k when all;go p b when minute=2;take r l when all;kill r q l when all;"
            + "go r a when minute=3;", 8);
        KIT.due("one deed", x.has(7), 1);
        KIT.due("p's", x.deed(0, 0), 0);
        KIT.row("needed", rule -> x.needed(rule, 0), 1, 1, 0, 0, 0, 0);
    }

    static void promise22_needed_otherVictimOfTheSameKiller_is1() {
        // without its first rule to kill, p kills r alone, once q is gone
        SnowHouse x = Kit.ran("room a;room b;door a b;who p in a;who q in a;who r in b;thing k in a;take p k when all;"
            + "kill p q k when all;kill p r k when all;go p b when minute>1;", 6);
        KIT.due("two deeds", x.has(7), 2);
        KIT.row("of q", rule -> x.needed(rule, 0), 1, 1, 0, 0);
        KIT.row("of r", rule -> x.needed(rule, 1), 1, 0, 1, 1);
    }

    static void promise22_needed_ofEachDeedByItself() {
        SnowHouse x = Kit.ran(Promise08To12Test.sevenDeeds(), 20);
        for (int k = 0; k < 7; k++) {
            for (int kill = 1; kill < 8; kill++) {
                // without the earlier victim's death the later ones die all the same: each sits alone
                KIT.due("needed(" + kill + ", " + k + ")", x.needed(kill, k), kill == k + 1 ? 1 : 0);
            }
            KIT.due("the knife", x.needed(0, k), 1);
            KIT.due("the way", x.needed(8, k), 1);
        }
    }

    static void promise22_needed_theEveningStays() {
        SnowHouse x = Kit.ran(MURDER, 8);
        x.needed(0, 0);
        x.needed(3, 0);
        KIT.due("deeds", x.has(7), 1);
        KIT.due("minutes", x.has(6), 8);
        KIT.due("traces", x.has(8), 4);
        KIT.due("was", x.was(0, 2), 2);
        KIT.due("knows", x.knows(0, 1), 3);
        KIT.due("did", x.did(0, 3), 3);
    }
}
