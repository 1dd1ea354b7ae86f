/** Promises 6 and 7: how many there are, and the letters of their names. */
public final class Promise06To07Test {
    private static final Kit KIT = new Kit();
    private static final int[] ODD = {-1, -2, 9, 10, 100, Integer.MIN_VALUE, Integer.MAX_VALUE};
    private static final String HOUSE = "room a;room bb;room zzzzzz;door bb a;who c in a;who dee in bb;"
        + "thing knife in a;take c knife when all;kill c dee knife when all;feel c 1 when all;go dee a when all;"
        + "says c a 0 1;says dee a 0 1;says c bb 0 0;says c a 1 1;says c a 2 2;";

    public static void main(String[] args) throws Exception {
        KIT.cases(Promise06To07Test.class);
        KIT.close();
    }

    // ---- promise 6: has

    static void promise06_has_ofATextThatIsTold() {
        KIT.row("has", Kit.told(HOUSE)::has, 3, 1, 2, 1, 4, 5, 0, 0, 0);
    }

    static void promise06_has_ofAnEvening() {
        SnowHouse x = Kit.ran(HOUSE, 2);
        // minute 0: c takes the knife, dee comes; minute 1: c kills dee
        KIT.row("has", x::has, 3, 1, 2, 1, 4, 5, 2, 1, 2);
        x.run(1);
        KIT.row("of a shorter one", x::has, 3, 1, 2, 1, 4, 5, 1, 0, 1);
        x.run(180);
        KIT.row("of the longest", x::has, 3, 1, 2, 1, 4, 5, 180, 1, 2);
    }

    static void promise06_has_anEveningWithNobody_has0DeedsAndTraces() {
        SnowHouse x = Kit.ran("room a;", 7);
        KIT.row("has", x::has, 1, 0, 0, 0, 0, 0, 7, 0, 0);
    }

    static void promise06_has_ofARefusedTextOrRun_asAhead() {
        SnowHouse x = Kit.ran(HOUSE, 2);
        Kit.text(x, "room q;;");
        x.run(0);
        x.run(181);
        KIT.row("has", x::has, 3, 1, 2, 1, 4, 5, 2, 1, 2);
    }

    static void promise06_has_aLeftOutRule_isThereStill() {
        SnowHouse x = Kit.told(HOUSE);
        x.skip(0, true);
        KIT.due("rules", x.has(4), 4);
    }

    static void promise06_has_another_isNone() {
        for (int what : ODD) {
            KIT.due("new has(" + what + ")", new SnowHouse().has(what), -1);
            KIT.due("has(" + what + ")", Kit.ran(HOUSE, 3).has(what), -1);
        }
    }

    static void promise06_has_asManyAsMayBe() {
        KIT.row("has", Kit.told(Promise04Test.most())::has, 8, 16, 8, 8, 30, 12, 0, 0, 0);
    }

    // ---- promise 7: letter

    static void promise07_letter_ofEachKind_firstToLast() {
        SnowHouse x = Kit.told(HOUSE);
        KIT.row("a", k -> x.letter(0, 0, k), 'a');
        KIT.row("bb", k -> x.letter(0, 1, k), 'b', 'b');
        KIT.row("zzzzzz", k -> x.letter(0, 2, k), 'z', 'z', 'z', 'z', 'z', 'z');
        KIT.row("c", k -> x.letter(1, 0, k), 'c');
        KIT.row("dee", k -> x.letter(1, 1, k), 'd', 'e', 'e');
        KIT.row("knife", k -> x.letter(2, 0, k), 'k', 'n', 'i', 'f', 'e');
    }

    static void promise07_letter_97To122() {
        SnowHouse x = Kit.told("room abcdef;room ghijkl;room mnopqr;room stuvwx;room yz;");
        for (int i = 0; i < 26; i++) {
            KIT.due("letter " + i, x.letter(0, i / 6, i % 6), 97 + i);
        }
    }

    static void promise07_letter_behindTheLast_isNone() {
        SnowHouse x = Kit.told(HOUSE);
        KIT.due("a", x.letter(0, 0, 1), -1);
        KIT.due("bb", x.letter(0, 1, 2), -1);
        KIT.due("of six", x.letter(0, 2, 6), -1);
        KIT.due("of six", x.letter(0, 2, 7), -1);
        KIT.due("knife", x.letter(2, 0, 5), -1);
        KIT.due("far behind", x.letter(0, 0, 32), -1);
        KIT.due("far behind", x.letter(0, 0, Integer.MAX_VALUE), -1);
    }

    static void promise07_letter_below0_isNone() {
        SnowHouse x = Kit.told(HOUSE);
        KIT.due("k", x.letter(0, 0, -1), -1);
        KIT.due("k", x.letter(0, 2, -1), -1);
        KIT.due("k", x.letter(0, 0, Integer.MIN_VALUE), -1);
    }

    static void promise07_letter_ofNoSuchOne_isNone() {
        SnowHouse x = Kit.told(HOUSE);
        for (int kind = 0; kind < 3; kind++) {
            KIT.due("below", x.letter(kind, -1, 0), -1);
            KIT.due("the one behind the last", x.letter(kind, 3 - kind, 0), -1);
            KIT.due("far off", x.letter(kind, 8, 0), -1);
            KIT.due("far off", x.letter(kind, Integer.MIN_VALUE, 0), -1);
            KIT.due("far off", x.letter(kind, Integer.MAX_VALUE, 0), -1);
        }
    }

    static void promise07_letter_ofNoSuchKind_isNone() {
        SnowHouse x = Kit.told(HOUSE);
        for (int kind : new int[] {-1, 3, 4, 5, 6, Integer.MIN_VALUE, Integer.MAX_VALUE}) {
            KIT.due("kind " + kind, x.letter(kind, 0, 0), -1);
        }
    }

    static void promise07_letter_ofTheEighthOfEachKind() {
        SnowHouse x = Kit.told(Promise04Test.most());
        KIT.row("room rh", k -> x.letter(0, 7, k), 'r', 'h', -1);
        KIT.row("person ph", k -> x.letter(1, 7, k), 'p', 'h', -1);
        KIT.row("thing th", k -> x.letter(2, 7, k), 't', 'h', -1);
        KIT.due("a ninth room", x.letter(0, 8, 0), -1);
        KIT.due("a ninth person", x.letter(1, 8, 0), -1);
        KIT.due("a ninth thing", x.letter(2, 8, 0), -1);
    }
}
