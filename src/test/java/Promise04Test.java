/** Promise 4: THE TEXT, as it must be read, and what reading it does. Its faults are promise 5's. */
public final class Promise04Test {
    private static final Kit KIT = new Kit();
    private static final String HOUSE = "room hall;room lib;who ann in hall;who bob in lib;thing cup in lib;";
    private static final String OWN = "room door who in thing says go take lay wipe feel kill when or and not all at"
        + " has near alone dead knows minute mood min max";

    public static void main(String[] args) throws Exception {
        KIT.cases(Promise04Test.class);
        KIT.close();
    }

    // ---- what a text is

    static void promise04_emptyTape_isATextOf0Statements() {
        KIT.whole("", 0);
    }

    static void promise04_blanksAlone_areATextOf0Statements() {
        KIT.whole(" ", 0);
        KIT.whole("\n", 0);
        KIT.whole(" \n \n", 0);
    }

    static void promise04_eachSortOfStatement_counts() {
        KIT.whole("room a;", 1);
        KIT.whole("room a;room b;door a b;", 3);
        KIT.whole(HOUSE, 5);
        KIT.whole(HOUSE + "says ann lib 1 2;", 6);
        KIT.whole(HOUSE + "go ann lib when all;", 6);
        KIT.whole(HOUSE + "take ann cup when all;", 6);
        KIT.whole(HOUSE + "lay ann cup when all;", 6);
        KIT.whole(HOUSE + "wipe ann when all;", 6);
        KIT.whole(HOUSE + "feel ann 1 when all;", 6);
        KIT.whole(HOUSE + "kill ann bob cup when all;", 6);
    }

    static void promise04_eachFact_isRead() {
        for (String fact : new String[] {"all", "not all", "[all]", "at ann hall", "has ann cup", "near ann bob",
            "alone ann", "dead bob", "knows ann bob", "1<2", "1>2", "1=2", "not[not[all]]"}) {
            KIT.whole(HOUSE + "wipe ann when " + fact + ";", 6);
        }
        KIT.whole(HOUSE + "wipe ann when at ann lib and has ann cup or near ann bob and alone ann or dead bob"
            + " and knows ann bob or not 1<2 and not not [1>2 or minute=mood bob];", 6);
    }

    static void promise04_eachPart_isRead() {
        for (String part : new String[] {"7", "minute", "mood bob", "(7)", "min(1,2)", "max(1,2)", "((minute))",
            "1+2", "1-2", "1*2", "1/2", "1%2", "1+2-3*4/5%6"}) {
            KIT.whole(HOUSE + "feel ann " + part + " when all;", 6);
            KIT.whole(HOUSE + "wipe ann when " + part + "<" + part + ";", 6);
        }
    }

    static void promise04_aPersonMayClaimAndRoomsMayBeToldBehindRules() {
        KIT.whole(HOUSE + "go bob hall when all;says bob hall 1 2;room attic;door attic hall;", 9);
    }

    // ---- words, numbers and blanks

    static void promise04_blanks10And32_mayStandBetweenAll() {
        KIT.whole(" \n room \n\n a \n ;\nwho\nb\nin\na\n;wipe b when ( 1 ) < 2 and [ all ] ; \n", 3);
    }

    static void promise04_noBlank_whereOneOfTheTwoIsASign() {
        KIT.whole("room a;who b in a;feel b(1)when(1)<2 and[all]or not[all];", 3);
    }

    static void promise04_nameOfOneLetter_aAndZ() {
        KIT.whole("room a;room z;", 2);
    }

    static void promise04_nameOf6Letters() {
        KIT.whole("room abcdef;room zzzzzz;room azazaz;", 3);
    }

    static void promise04_namesThatBeginAlike_areUnlike() {
        KIT.whole("room a;room aa;room aaa;room aaaa;room aaaaa;room aaaaaa;room ab;room ba;", 8);
    }

    static void promise04_namesThatNearlyAreOwnWords_areNames() {
        for (String own : OWN.split(" ")) {
            if (own.length() < 6) {
                KIT.whole("room " + own + "z;", 1);
            }
            String less = own.substring(0, own.length() - 1);
            if (!less.isEmpty() && !(" " + OWN + " ").contains(" " + less + " ")) {
                KIT.whole("room " + less + ";", 1);
            }
            KIT.whole("room z" + own.substring(0, Math.min(5, own.length())) + ";", 1);
        }
    }

    static void promise04_numbersOf1To4Digits() {
        for (String number : new String[] {"0", "9", "00", "10", "000", "999", "0000", "0009", "1000", "9999"}) {
            KIT.whole(HOUSE + "feel ann " + number + " when all;", 6);
        }
        KIT.whole(HOUSE + "says ann lib 0000 0179;", 6);
    }

    // ---- as many as may be

    static void promise04_8Rooms() {
        KIT.whole(Kit.many("room r#;", 8), 8);
    }

    /** All doors from a and from b, and three more: 16. */
    static String doors16() {
        return Kit.many("door ra r#;", 8).replace("door ra ra;", "") + Kit.many("door rb r#;", 8)
            .replace("door rb ra;", "").replace("door rb rb;", "") + "door rc rd;door rc re;door rc rf;";
    }

    static void promise04_16Doors() {
        KIT.whole(Kit.many("room r#;", 8) + doors16(), 24);
    }

    static void promise04_8Persons() {
        KIT.whole("room a;" + Kit.many("who p# in a;", 8), 9);
    }

    static void promise04_8Things() {
        KIT.whole("room a;" + Kit.many("thing p# in a;", 8), 9);
    }

    static void promise04_12Claims() {
        KIT.whole("room a;who p in a;" + Kit.many("says p a 0 1;", 12), 14);
    }

    static void promise04_30RulesOfAllKindsTogether() {
        KIT.whole(HOUSE + Kit.many("wipe ann when all;", 25) + "go ann lib when all;take ann cup when all;"
            + "lay ann cup when all;feel ann 1 when all;kill ann bob cup when all;", 35);
    }

    /** 82 statements: of each sort as many as there may be. */
    static String most() {
        return Kit.many("room r#;", 8) + doors16() + Kit.many("who p# in ra;", 8) + Kit.many("thing t# in ra;", 8)
            + Kit.many("says pa ra 0 0;", 12) + Kit.many("wipe pa when all;", 30);
    }

    static void promise04_asManyAsMayBeOfAllSortsAtOnce() {
        KIT.whole(most(), 82);
        SnowHouse x = Kit.told(most());
        KIT.row("has", x::has, 8, 16, 8, 8, 30, 12);
    }

    static void promise04_textOf1200Bytes_isReadToItsEnd() {
        String text = HOUSE + "feel ann 1";
        String behind = " when all;";
        StringBuilder sum = new StringBuilder();
        while (text.length() + sum.length() + behind.length() < 1199) {
            sum.append("+1");
        }
        text += sum + behind;
        text += " ".repeat(1200 - text.length());
        KIT.whole(text, 6);
        SnowHouse x = Kit.ran(text, 1);
        KIT.due("its sum", x.mood(0, 0), 1 + sum.length() / 2);
        KIT.whole(most() + " ".repeat(1200 - most().length()), 82);
    }

    static void promise04_claimsMinutes_0And179AndTheSameTwice() {
        KIT.whole(HOUSE + "says ann lib 0 0;", 6);
        KIT.whole(HOUSE + "says ann lib 0 179;", 6);
        KIT.whole(HOUSE + "says ann lib 179 179;", 6);
        KIT.whole(HOUSE + "says ann lib 7 8;", 6);
        KIT.whole(HOUSE + "says ann lib 0010 10;", 6);
    }

    static void promise04_8BracketsOpenAtOnce() {
        String head = "room a;who p in a;wipe p when ";
        KIT.whole(head + "((((((((1))))))))<2;", 3);
        KIT.whole(head + "[[[[[[[[all]]]]]]]];", 3);
        KIT.whole(head + "[[[[((((1))))<2]]]];", 3);
        KIT.whole(head + "[[[[[[[max(1,2)<2]]]]]]];", 3);
        KIT.whole(head + "min(1,max(1,min(1,max(1,min(1,max(1,min(1,max(1,2))))))))<2;", 3);
        KIT.whole("room a;who p in a;feel p ((((((((1)))))))) when [[[[[[[[all]]]]]]]];", 3);
    }

    static void promise04_bracketsThatAreClosed_openNoMore() {
        String head = "room a;who p in a;wipe p when ";
        KIT.whole(head + Kit.many("(1)<2 and [all] or ", 20) + "[((((((1))))))=1];", 3);
        KIT.whole(head + "((((((((1))))))))<((((((((1)))))))) and [[[[[[[[all]]]]]]]];", 3);
        KIT.whole(head + "max(((((((1)))))),(((((((1))))))))=min(1,2)+(((((((1)))))));", 3);
        KIT.whole("room a;who p in a;" + Kit.many("wipe p when [[(1)<2]];", 12), 14);
    }

    static void promise04_notAndSumsAndTests_areNotBoundToAnyLength() {
        String head = "room a;who p in a;wipe p when ";
        KIT.whole(head + "not ".repeat(280) + "all;", 3);
        KIT.whole(head + "1" + "+1".repeat(550) + "=551;", 3);
        KIT.whole(head + "all" + " or all".repeat(160) + ";", 3);
        KIT.whole(head + "all" + " and all".repeat(140) + ";", 3);
        KIT.whole(head + "1" + "*1".repeat(280) + "<1" + "/1".repeat(280) + ";", 3);
    }

    // ---- what reading it does

    private static SnowHouse changedAndRan() {
        SnowHouse x = Kit.told(HOUSE + "feel ann 1 when all;take bob cup when all;says ann hall 0 9;");
        x.begin(0, 1);
        x.put(0, 0);
        x.skip(0, true);
        x.run(3);
        return x;
    }

    static void promise04_whole_theTapeGoes() {
        SnowHouse x = Kit.told("room a;");
        KIT.due("end(1)", x.end(1), false);
        KIT.due("read again, it is empty", x.text(), 0);
        KIT.due("rooms", x.has(0), 0);
    }

    static void promise04_refused_theTapeGoes() {
        SnowHouse x = Kit.told("room a;room a;");
        KIT.due("end(1)", x.end(1), false);
        KIT.due("read again, it is empty", x.text(), 0);
    }

    static void promise04_refused_isNone() {
        KIT.due("text", Kit.text(new SnowHouse(), "room"), -1);
    }

    static void promise04_refused_whatWasToldStays() {
        SnowHouse x = changedAndRan();
        KIT.due("text", Kit.text(x, "room x;room y;who z in x;says z y 3 4;feel z 7 when all;door x y;room x;"), -1);
        KIT.row("has", x::has, 2, 0, 2, 1, 2, 1);
        KIT.row("hall", k -> x.letter(0, 0, k), 'h', 'a', 'l', 'l', -1);
        KIT.row("ann", k -> x.letter(1, 0, k), 'a', 'n', 'n', -1);
        KIT.row("cup", k -> x.letter(2, 0, k), 'c', 'u', 'p', -1);
    }

    static void promise04_refused_theEveningStays() {
        SnowHouse x = changedAndRan();
        Kit.text(x, "room x;room y;who z in q;");
        KIT.due("minutes", x.has(6), 3);
        KIT.due("was", x.was(0, 2), 1);
        KIT.due("where", x.where(0, 2), 0);
        KIT.due("mood", x.mood(0, 2), 0);
        KIT.due("claim", x.claim(0), 2);
        KIT.due("caught", x.caught(0, true), 1);
    }

    static void promise04_refused_theChangesStay() {
        SnowHouse x = changedAndRan();
        Kit.text(x, "room x;room y;who z in q;");
        x.run(2);
        KIT.due("begins in the library", x.was(0, 1), 1);
        KIT.due("lies in the hall", x.where(0, 1), 0);
        KIT.due("the rule is left out", x.mood(0, 1), 0);
    }

    static void promise04_refusedAtOnce_sparingAndFairestStay() {
        SnowHouse x = Kit.ran("room a;who p in a;who q in a;thing k in a;take p k when all;kill p q k when all;", 2);
        Kit.text(x, "room x;room y;;");
        KIT.row("spare", x::spare, 0, 0, -1);
        KIT.row("fairest", x::fairest, 1, 0, 0, 0);
        KIT.due("needed", x.needed(1, 0), 1);
        Kit.text(x, "who");
        KIT.row("spare", x::spare, 0, 0, -1);
        KIT.row("fairest", x::fairest, 1, 0, 0, 0);
    }

    static void promise04_whole_noChanges() {
        SnowHouse x = changedAndRan();
        Kit.text(x, HOUSE + "feel ann 1 when all;");
        x.run(2);
        KIT.due("begins as told", x.was(0, 0), 0);
        KIT.due("lies as told", x.where(0, 0), 1);
        KIT.due("no rule is left out", x.mood(0, 1), 2);
    }

    static void promise04_whole_noEvening() {
        SnowHouse x = changedAndRan();
        Kit.text(x, HOUSE + "feel ann 1 when all;says ann hall 0 9;");
        KIT.row("has", what -> x.has(6 + what), 0, 0, 0);
        KIT.due("was", x.was(0, 0), -1);
        KIT.due("mood", x.mood(0, 0), -2000000000);
        KIT.due("claim", x.claim(0), -1);
    }

    static void promise04_whole_noEvening_noDeedsTracesOrKnowledge() {
        String murder = "room a;who p in a;who q in a;thing k in a;take p k when all;kill p q k when all;";
        SnowHouse x = Kit.ran(murder, 4);
        KIT.due("spare", x.spare(0), 0);
        KIT.due("fairest", x.fairest(0), 1);
        Kit.text(x, murder);
        KIT.due("deed", x.deed(0, 0), -1);
        KIT.due("trace", x.trace(0, 0), -1);
        KIT.due("knows", x.knows(0, 1), -1);
        KIT.due("needed", x.needed(0, 0), -1);
        KIT.due("fair", x.fair(1), -1);
        KIT.due("least", x.least(1, false), -1);
        KIT.due("span", x.span(1, 1, false), -1);
        KIT.due("could", x.could(1, 1, 1), -1);
        KIT.due("spare", x.spare(0), -1);
        KIT.due("fairest", x.fairest(0), -1);
    }

    static void promise04_whole_whatWasToldAheadIsGone() {
        SnowHouse x = changedAndRan();
        KIT.due("text", Kit.text(x, "room den;"), 1);
        KIT.row("has", x::has, 1, 0, 0, 0, 0, 0);
        KIT.due("ann", x.letter(1, 0, 0), -1);
        KIT.due("hall", x.letter(0, 0, 0), 'd');
        KIT.due("begin", x.begin(0, 0), false);
        KIT.due("put", x.put(0, 0), false);
        KIT.due("skip", x.skip(0, true), false);
        KIT.due("empty", Kit.text(x, ""), 0);
        KIT.due("rooms", x.has(0), 0);
    }

    static void promise04_faultWithBracketsOpen_theNextTextBeginsWithNone() {
        SnowHouse x = Kit.told("room a;who p in a;wipe p when [[[[((((1");
        KIT.due("fault", x.fault(0), 1);
        KIT.due("text", Kit.text(x, "room a;who p in a;wipe p when [[[[((((1))))<2]]]];"), 3);
    }

    static void promise04_manyLongTextsOneBehindTheOther_allAreKept() {
        SnowHouse x = new SnowHouse();
        for (int i = 0; i < 8; i++) {
            Kit.text(x, "room a;who p in a;feel p 1" + "+1".repeat(400 + i) + " when not not all;");
            x.run(1);
            KIT.due("mood by text " + i, x.mood(0, 0), 401 + i);
        }
    }

    static void promise04_textsOneBehindTheOther_leaveNothingBehind() {
        String doors = "room a;room b;door a b;who p in a;go p b when all;";
        String none = "room a;room b;who p in a;go p b when all;";
        SnowHouse x = Kit.told(doors);
        for (int i = 0; i < 3; i++) {
            KIT.due("without the door", Kit.text(x, none), 4);
            x.run(1);
            KIT.due("no way", x.was(0, 0), 0);
            Kit.text(x, "room a;room b;door a b;who p in b;thing p in a;");
            KIT.due("a refused one told no door", x.run(1), 0);
            KIT.due("no way", x.was(0, 0), 0);
            KIT.due("with the door", Kit.text(x, doors), 5);
            x.run(1);
            KIT.due("a way", x.was(0, 0), 1);
        }
    }
}
