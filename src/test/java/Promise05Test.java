/** Promise 5: the faults of a text, and their places, told by the mark ^. */
public final class Promise05Test {
    private static final Kit KIT = new Kit();
    private static final String HOUSE = "room hall;room lib;who ann in hall;who bob in lib;thing cup in lib;";
    private static final String WIPE = HOUSE + "wipe ann when ";
    private static final String[] OWN = ("room door who in thing says go take lay wipe feel kill when or and not all at"
        + " has near alone dead knows minute mood min max").split(" ");
    /** A mark for a NAME that the tests put others in the place of. */
    private static final String[] ASKED_PERSON = {"says # lib 1 2;", "go # lib when all;", "take # cup when all;",
        "lay # cup when all;", "wipe # when all;", "feel # 1 when all;", "kill # bob cup when all;",
        "kill ann # cup when all;", "wipe ann when at # lib;", "wipe ann when has # cup;",
        "wipe ann when near # bob;", "wipe ann when near ann #;", "wipe ann when alone #;", "wipe ann when dead #;",
        "wipe ann when knows # bob;", "wipe ann when knows ann #;", "wipe ann when mood #<1;",
        "feel ann mood # when all;"};
    private static final String[] ASKED_ROOM = {"door # lib;", "door hall #;", "who dan in #;", "thing fox in #;",
        "says ann # 1 2;", "go ann # when all;", "wipe ann when at ann #;"};
    private static final String[] ASKED_THING = {"take ann # when all;", "lay ann # when all;",
        "kill ann bob # when all;", "wipe ann when has ann #;"};
    private static final String[] GIVEN = {"room #;", "who # in hall;", "thing # in hall;"};

    public static void main(String[] args) throws Exception {
        KIT.cases(Promise05Test.class);
        KIT.close();
    }

    private static void each(String[] statements, String instead, int kind) {
        for (String statement : statements) {
            KIT.faulty(HOUSE + statement.replace("#", "^" + instead), kind);
        }
    }

    // ---- fault() itself

    static void promise05_aheadOfAnyText_0AndNone() {
        SnowHouse x = new SnowHouse();
        KIT.due("fault(0)", x.fault(0), 0);
        KIT.due("fault(1)", x.fault(1), -1);
    }

    static void promise05_anotherWhat_isNone() {
        SnowHouse x = new SnowHouse();
        for (int i = 0; i < 2; i++) {
            for (int what : new int[] {-1, 2, 3, Integer.MIN_VALUE, Integer.MAX_VALUE}) {
                KIT.due("fault(" + what + ")", x.fault(what), -1);
            }
            Kit.text(x, "room");
        }
    }

    static void promise05_ofTheLatestTextAlone() {
        SnowHouse x = new SnowHouse();
        Kit.text(x, "room a;room a;");
        KIT.due("kind", x.fault(0), 2);
        KIT.due("place", x.fault(1), 12);
        Kit.text(x, ";");
        KIT.due("kind", x.fault(0), 1);
        KIT.due("place", x.fault(1), 0);
        Kit.text(x, "room a;");
        KIT.due("no fault", x.fault(0), 0);
        KIT.due("no place", x.fault(1), -1);
    }

    static void promise05_staysWhileTheNextTextIsFedAndCallsAreRefused() {
        SnowHouse x = Kit.told("room a;room a;");
        Kit.feed(x, Kit.bytes("room b;"));
        x.end(99);
        x.run(0);
        x.begin(9, 9);
        KIT.due("kind", x.fault(0), 2);
        KIT.due("place", x.fault(1), 12);
    }

    // ---- fault 1: the text's end, and what must not stand there

    /** A text of all there is, its tokens parted by blanks: whatever is cut off at one, it ends too soon. */
    private static final String LONG = "room a ; room b ; door a b ; who p in a ; who q in b ; thing t in a ; "
        + "says p a 1 2 ; go p b when all ; take p t when not at p a and has p t or near p q ; lay p t when alone p ; "
        + "wipe p when [ dead q ] ; feel p 1 + minute - mood q * 2 when knows p q and 1 < 2 / 3 ; "
        + "kill p q t when min ( 1 , 2 ) > max ( 2 , 3 ) % 5 or ( 4 ) = 4 ;";

    static void promise05_endsTooSoon_atTheTextsLength() {
        KIT.whole(LONG, 13);
        for (int i = 0; i < LONG.length(); i++) {
            if (LONG.charAt(i) == ' ' && LONG.charAt(i - 1) != ';') {
                KIT.faulty(LONG.substring(0, i) + "^", 1);
            }
        }
        KIT.faulty(LONG.substring(0, LONG.length() - 1) + "^", 1);
    }

    static void promise05_endsTooSoon_withBlanksBehind_atTheTextsLengthToo() {
        for (int i = 0; i < LONG.length(); i++) {
            if (LONG.charAt(i) == ' ' && LONG.charAt(i - 1) != ';') {
                KIT.faulty(LONG.substring(0, i) + " ^", 1);
                KIT.faulty(LONG.substring(0, i) + "\n  ^", 1);
            }
        }
    }

    static void promise05_endsTooSoon_at1200() {
        KIT.faulty(" ".repeat(1194) + "room a^", 1);
        KIT.faulty("room a" + " ".repeat(1194) + "^", 1);
        KIT.faulty("room a;" + " ".repeat(1189) + "room^", 1);
    }

    static void promise05_cutWithinAWord_isThatWord() {
        KIT.faulty("^roo", 1);
        KIT.faulty("room a;who b ^i", 1);
        KIT.faulty(HOUSE + "go ann ^li", 3);
        KIT.faulty(HOUSE + "go ann lib ^whe", 1);
        KIT.faulty(WIPE + "^al", 1);
    }

    static void promise05_aStatementBeginsWithNothingElse() {
        KIT.faulty("^;", 1);
        KIT.faulty("room a;^;", 1);
        KIT.faulty("^a;", 1);
        KIT.faulty("^roof a;", 1);
        KIT.faulty("^rooms a;", 1);
        KIT.faulty("^1 room a;", 1);
        KIT.faulty("^a room b;", 1);
        for (String own : "in when or and not all at has near alone dead knows minute mood min max".split(" ")) {
            KIT.faulty("^" + own + " a;", 1);
        }
    }

    /** Every byte behind "room z" and ahead of ";". */
    static void promise05_eachByte_behindAName() {
        for (int b = 0; b < 256; b++) {
            SnowHouse x = new SnowHouse();
            boolean goesOn = b == 10 || b == 32 || b >= 'a' && b <= 'z';
            KIT.due("byte " + b, Kit.text(x, "room z" + (char) b + ";"), goesOn ? 1 : -1);
            KIT.due("fault of byte " + b, x.fault(0), goesOn ? 0 : 1);
            KIT.due("place of byte " + b, x.fault(1), goesOn ? -1 : b == ';' ? 7 : 6);
        }
    }

    /** Every byte ahead of a text: none but the blanks may stand there. */
    static void promise05_eachByte_atTheTextsFirst() {
        for (int b = 0; b < 256; b++) {
            SnowHouse x = new SnowHouse();
            boolean blank = b == 10 || b == 32;
            KIT.due("byte " + b, Kit.text(x, (char) b + "room a;"), blank ? 1 : -1);
            KIT.due("fault of byte " + b, x.fault(0), blank ? 0 : 1);
            KIT.due("place of byte " + b, x.fault(1), blank ? -1 : 0);
        }
    }

    /** Every byte where a fact or a part may begin. */
    static void promise05_eachByte_whereATestBegins() {
        for (int b = 0; b < 256; b++) {
            SnowHouse x = new SnowHouse();
            boolean blank = b == 10 || b == 32;
            KIT.due("byte " + b, Kit.text(x, WIPE + (char) b + " 1<2;"), blank ? 6 : -1);
            KIT.due("fault of byte " + b, x.fault(0), blank ? 0 : 1);
            KIT.due("place of byte " + b, x.fault(1), blank ? -1 : WIPE.length() + faultBehind(b));
        }
    }

    /** How far behind a byte of a test that goes on with " 1<2;" its fault is. */
    private static int faultBehind(int b) {
        if (b >= '0' && b <= '9') {
            return " 1".length();
        }
        return b == '(' ? " 1<".length() : b == '[' ? " 1<2;".length() : 0;
    }

    static void promise05_otherBlanks_areNone() {
        KIT.faulty("room^\ta;", 1);
        KIT.faulty("room^\ra;", 1);
        KIT.faulty("room^\u000ba;", 1);
        KIT.faulty("room^\fa;", 1);
        KIT.faulty("room^\u00a0a;", 1);
        KIT.faulty("room a;^\u0000", 1);
    }

    static void promise05_capitalsAndBytesBesideTheLetters_areNoLetters() {
        KIT.faulty("^Room a;", 1);
        KIT.faulty("room ^A;", 1);
        KIT.faulty("room ^Z;", 1);
        KIT.faulty("room a^B;", 1);
        KIT.faulty("room a^`;", 1);
        KIT.faulty("room a^{;", 1);
        KIT.faulty("room ^\u00e1;", 1);
    }

    static void promise05_bytesBesideTheDigits_areNoDigits() {
        KIT.faulty(HOUSE + "says ann lib ^/ 1;", 1);
        KIT.faulty(HOUSE + "says ann lib ^: 1;", 1);
        KIT.faulty(HOUSE + "says ann lib 1^: 1;", 1);
        KIT.faulty(HOUSE + "says ann lib 1^/ 1;", 1);
        KIT.faulty(HOUSE + "says ann lib ^\u00b2 1;", 1);
    }

    static void promise05_aSignOrNumberWhereANameMustBe() {
        for (String instead : new String[] {";", "1", "9999", "(", "[", "<", "+", ",", "\u00ff", "\u0000"}) {
            each(GIVEN, instead, 1);
            each(ASKED_PERSON, instead, 1);
            each(ASKED_ROOM, instead, 1);
            each(ASKED_THING, instead, 1);
        }
    }

    static void promise05_anOwnWordWhereANameMustBe() {
        for (String own : OWN) {
            each(GIVEN, own, 1);
            each(ASKED_PERSON, own, 1);
            each(ASKED_ROOM, own, 1);
            each(ASKED_THING, own, 1);
        }
    }

    static void promise05_aNameWhereAnOwnWordMustBe() {
        KIT.faulty("room a;who b ^a;", 1);
        KIT.faulty("room a;who b ^inn a;", 1);
        KIT.faulty("room a;who b ^at a;", 1);
        KIT.faulty("room a;thing b ^when a;", 1);
        KIT.faulty(HOUSE + "go ann lib ^all;", 1);
        KIT.faulty(HOUSE + "go ann lib ^lib when all;", 1);
        KIT.faulty(HOUSE + "wipe ann ^hall when all;", 1);
        KIT.faulty(HOUSE + "kill ann bob cup ^in all;", 1);
        KIT.faulty(WIPE + "^ann;", 1);
        KIT.faulty(WIPE + "all ^ann;", 1);
        KIT.faulty(WIPE + "all ^all;", 1);
        KIT.faulty(WIPE + "all ^not all;", 1);
        KIT.faulty(WIPE + "1<^ann;", 1);
    }

    static void promise05_claimsNumbers_nothingElse() {
        KIT.faulty(HOUSE + "says ann lib ^ann 2;", 1);
        KIT.faulty(HOUSE + "says ann lib ^minute 2;", 1);
        KIT.faulty(HOUSE + "says ann lib ^(1) 2;", 1);
        KIT.faulty(HOUSE + "says ann lib ^-1 2;", 1);
        KIT.faulty(HOUSE + "says ann lib 1 ^;", 1);
        KIT.faulty(HOUSE + "says ann lib 1 ^bob;", 1);
        KIT.faulty(HOUSE + "says ann lib 1 2 ^3;", 1);
        KIT.faulty(HOUSE + "says ann lib 1 2^+1;", 1);
        KIT.faulty(HOUSE + "says ann lib 1^,2;", 1);
    }

    static void promise05_statementsEndWithTheirSign() {
        KIT.faulty("room a^,", 1);
        KIT.faulty("room a ^b;", 1);
        KIT.faulty("room a ^room b;", 1);
        KIT.faulty("room a;room b;door a b ^a;", 1);
        KIT.faulty("room a;who b in a ^a;", 1);
        KIT.faulty("room a;who b in a^:", 1);
        KIT.faulty(WIPE + "all^:", 1);
    }

    static void promise05_testsAndSums_nothingElse() {
        KIT.faulty(WIPE + "^;", 1);
        KIT.faulty(WIPE + "all and ^;", 1);
        KIT.faulty(WIPE + "all or ^or all;", 1);
        KIT.faulty(WIPE + "not ^;", 1);
        KIT.faulty(WIPE + "1 ^;", 1);
        KIT.faulty(WIPE + "1 < ^;", 1);
        KIT.faulty(WIPE + "1<2^<3;", 1);
        KIT.faulty(WIPE + "1<^<3;", 1);
        KIT.faulty(WIPE + "1<^=3;", 1);
        KIT.faulty(WIPE + "1^!3;", 1);
        KIT.faulty(WIPE + "1 ^and 2;", 1);
        KIT.faulty(WIPE + "^-1<2;", 1);
        KIT.faulty(WIPE + "^+1<2;", 1);
        KIT.faulty(WIPE + "1+^+1<2;", 1);
        KIT.faulty(WIPE + "1*^/1<2;", 1);
        KIT.faulty(WIPE + "1 ^2<3;", 1);
        KIT.faulty(WIPE + "all^+1<2;", 1);
        KIT.faulty(WIPE + "[1<2]^<3;", 1);
        KIT.faulty(WIPE + "1<^[2];", 1);
        KIT.faulty(WIPE + "1<^all;", 1);
        KIT.faulty(WIPE + "1<^not 2;", 1);
        KIT.faulty(HOUSE + "feel ann ^all when all;", 1);
        KIT.faulty(HOUSE + "feel ann ^[1] when all;", 1);
        KIT.faulty(HOUSE + "feel ann 1^<2 when all;", 1);
        KIT.faulty(HOUSE + "feel ann ^when all;", 1);
    }

    static void promise05_bracketsThatDoNotFit() {
        KIT.faulty(WIPE + "1<2^];", 1);
        KIT.faulty(WIPE + "1<2^);", 1);
        KIT.faulty(WIPE + "all^];", 1);
        KIT.faulty(WIPE + "(1^<2);", 1);
        KIT.faulty(WIPE + "(^all);", 1);
        KIT.faulty(WIPE + "(1^]<2;", 1);
        KIT.faulty(WIPE + "[1<2^);", 1);
        KIT.faulty(WIPE + "[1<2^;", 1);
        KIT.faulty(WIPE + "[^];", 1);
        KIT.faulty(WIPE + "(^)<1;", 1);
        KIT.faulty(WIPE + "(^[1]);", 1);
        KIT.faulty(WIPE + "(1^,2)<1;", 1);
    }

    static void promise05_minAndMax_twoSumsInRoundBrackets() {
        for (String of : new String[] {"min", "max"}) {
            KIT.faulty(WIPE + of + " ^1<2;", 1);
            KIT.faulty(WIPE + of + "^[1,2]<2;", 1);
            KIT.faulty(WIPE + of + "(1^)<2;", 1);
            KIT.faulty(WIPE + of + "(1 ^2)<2;", 1);
            KIT.faulty(WIPE + of + "(1^;2)<2;", 1);
            KIT.faulty(WIPE + of + "(1,^)<2;", 1);
            KIT.faulty(WIPE + of + "(^,1)<2;", 1);
            KIT.faulty(WIPE + of + "(1,2^,3)<2;", 1);
            KIT.faulty(WIPE + of + "(1,2^]<2;", 1);
        }
    }

    // ---- fault 1: words and numbers side by side, too long

    static void promise05_wordsAndNumbersSideBySide_atTheSecondOnesFirstByte() {
        KIT.faulty("room^1;", 1);
        KIT.faulty("room a^1;", 1);
        KIT.faulty("room a^1b;", 1);
        KIT.faulty("room a;who b^2 in a;", 1);
        KIT.faulty(HOUSE + "says ann lib^1 2;", 1);
        KIT.faulty(HOUSE + "says ann lib 1^ann 2;", 1);
        KIT.faulty(HOUSE + "feel ann^1 when all;", 1);
        KIT.faulty(HOUSE + "feel ann 1^when all;", 1);
        KIT.faulty(WIPE + "not^1=1;", 1);
        KIT.faulty(WIPE + "1=1^or all;", 1);
        KIT.faulty(WIPE + "1<minute^2;", 1);
    }

    static void promise05_sideBySideAndTooLong_atTheSecondOnesFirstByte() {
        KIT.faulty("room a;who b in a;says b a^12345 ", 1);
        KIT.faulty("room^12345;", 1);
        KIT.faulty("room abcdef^12345;", 1);
        KIT.faulty(HOUSE + "says ann lib 12^abcdefg;", 1);
        KIT.faulty(HOUSE + "says ann lib 1 12^abcdefg;", 1);
        KIT.faulty(WIPE + "all^12345", 1);
        KIT.faulty(WIPE + "1234^abcdefg", 1);
        KIT.faulty(WIPE + "1=1^abcdefg", 1);
    }

    static void promise05_parted_isNotSideBySide() {
        KIT.faulty("room a;who b in a;says b a 1234^5 ", 1);
        KIT.faulty(WIPE + "1=1 abcdef^g", 1);
        KIT.faulty(WIPE + "1=1;abcdef^g", 1);
        KIT.faulty(WIPE + "1=1\nabcdef^g", 1);
        KIT.faulty(WIPE + "(1234^5", 1);
    }

    static void promise05_7thLetter_ofANameToBeGiven_atItself() {
        KIT.faulty("room abcdef^g;", 1);
        KIT.faulty("room abcdef^ghijk;", 1);
        KIT.faulty("room a;who abcdef^g in a;", 1);
        KIT.faulty("room a;thing abcdef^g in a;", 1);
        KIT.faulty("room minute^s;", 1);
        KIT.faulty("room abcdef^g", 1);
    }

    static void promise05_7thLetter_ofANameAskedFor_atItself() {
        for (String[] statements : new String[][] {ASKED_PERSON, ASKED_ROOM, ASKED_THING}) {
            for (String statement : statements) {
                KIT.faulty(HOUSE + statement.replace("#", "abcdef^g"), 1);
            }
        }
        KIT.faulty("room abcdef;who p in abcdef^g;", 1);
    }

    static void promise05_7thLetter_whateverMayStandThere_atItself() {
        KIT.faulty("abcdef^g", 1);
        KIT.faulty("roomab^c ;", 1);
        KIT.faulty("room a abcdef^g;", 1);
        KIT.faulty("room a;who b abcdef^g a;", 1);
        KIT.faulty(HOUSE + "says ann lib abcdef^g 2;", 1);
        KIT.faulty(HOUSE + "go ann lib abcdef^g;", 1);
        KIT.faulty(WIPE + "abcdef^g;", 1);
        KIT.faulty(WIPE + "all abcdef^g;", 1);
        KIT.faulty(WIPE + "1 abcdef^g;", 1);
        KIT.faulty(WIPE + "min abcdef^g;", 1);
    }

    static void promise05_5thDigit_atItself() {
        KIT.faulty(HOUSE + "says ann lib 1234^5 2;", 1);
        KIT.faulty(HOUSE + "says ann lib 0000^0 2;", 1);
        KIT.faulty(HOUSE + "says ann lib 1 1234^56;", 1);
        KIT.faulty(HOUSE + "feel ann 0000^1 when all;", 1);
        KIT.faulty(WIPE + "1234^5<2;", 1);
        KIT.faulty(HOUSE + "feel ann 1234^5", 1);
    }

    static void promise05_5thDigit_whateverMayStandThere_atItself() {
        KIT.faulty("1234^5", 1);
        KIT.faulty("room 1234^5;", 1);
        KIT.faulty("room a; 1234^5", 1);
        KIT.faulty("room a 1234^5;", 1);
        KIT.faulty("room a;who b in 1234^5;", 1);
        KIT.faulty(HOUSE + "go 1234^5 lib when all;", 1);
        KIT.faulty(HOUSE + "go ann lib 1234^5 all;", 1);
        KIT.faulty(WIPE + "all 1234^5;", 1);
    }

    // ---- fault 2: names that are there already, doors between two that have one

    static void promise05_aNameThereAlready_ofEachKind_atItsFirstByte() {
        for (String there : new String[] {"hall", "lib", "ann", "bob", "cup"}) {
            each(GIVEN, there, 2);
        }
    }

    static void promise05_aNameThereAlready_ofTheVeryLastOnes() {
        KIT.faulty(Kit.many("room r#;", 8) + Kit.many("who p# in ra;", 8) + "thing ^rh in ra;", 2);
        KIT.faulty(Kit.many("room r#;", 8) + Kit.many("who p# in ra;", 8) + "thing ^ph in ra;", 2);
        KIT.faulty("room a;" + Kit.many("thing t# in a;", 8) + "who ^th in a;", 2);
        KIT.faulty("room a;" + Kit.many("thing t# in a;", 8) + "room ^th;", 2);
    }

    static void promise05_aSecondDoor_sameWay_atTheSecondNamesFirstByte() {
        KIT.faulty(HOUSE + "door hall lib;door hall ^lib;", 2);
    }

    static void promise05_aSecondDoor_otherWay_atTheSecondNamesFirstByte() {
        KIT.faulty(HOUSE + "door hall lib;door lib ^hall;", 2);
    }

    static void promise05_aSecondDoor_isFound_evenIfTheTextGoesOnWrongly() {
        KIT.faulty(HOUSE + "door hall lib;door hall ^lib", 2);
        KIT.faulty(HOUSE + "door hall lib;door hall ^lib lib;", 2);
        KIT.faulty(HOUSE + "door hall lib;door hall ^lib\u0001", 2);
    }

    static void promise05_aDoorToAThirdRoom_isNoSecondDoor() {
        KIT.whole(HOUSE + "room den;door hall lib;door den hall;door lib den;", 9);
    }

    // ---- fault 3: names of nothing, of another kind, the same ones

    static void promise05_aNameOfNothing_atItsFirstByte() {
        for (String none : new String[] {"x", "an", "annn", "halls", "cupcup"}) {
            each(ASKED_PERSON, none, 3);
            each(ASKED_ROOM, none, 3);
            each(ASKED_THING, none, 3);
        }
    }

    static void promise05_aNameOfAnotherKind_atItsFirstByte() {
        each(ASKED_PERSON, "hall", 3);
        each(ASKED_PERSON, "cup", 3);
        each(ASKED_ROOM, "ann", 3);
        each(ASKED_ROOM, "cup", 3);
        each(ASKED_THING, "lib", 3);
        each(ASKED_THING, "bob", 3);
    }

    static void promise05_aNameToldLaterAlone_atItsFirstByte() {
        KIT.faulty("room a;door a ^b;room b;", 3);
        KIT.faulty("who p in ^a;room a;", 3);
        KIT.faulty(HOUSE + "go ^dan lib when all;who dan in lib;", 3);
        KIT.faulty(WIPE + "has ann ^fox;thing fox in lib;", 3);
    }

    static void promise05_aNameOfTheSameStatement_isNotToldYet() {
        KIT.faulty("room a;who b in ^b;", 3);
        KIT.faulty("room a;thing b in ^b;", 3);
    }

    static void promise05_theSameOneWhereUnlikeOnesMustBe_atTheSecond() {
        KIT.faulty("room a;door a ^a;", 3);
        KIT.faulty(HOUSE + "door hall lib;door lib ^lib;", 3);
        KIT.faulty(HOUSE + "kill ann ^ann cup when all;", 3);
        KIT.faulty(HOUSE + "kill bob ^bob cup when all;", 3);
        KIT.faulty(WIPE + "near ann ^ann;", 3);
        KIT.faulty(WIPE + "near bob ^bob;", 3);
        KIT.faulty(WIPE + "knows ann ^ann;", 3);
        KIT.faulty(WIPE + "knows bob ^bob;", 3);
    }

    static void promise05_aNameOfNothing_evenIfTheTextGoesOnWrongly() {
        KIT.faulty(HOUSE + "go ^x", 3);
        KIT.faulty(HOUSE + "go ^x1", 3);
        KIT.faulty(HOUSE + "says ann ^bob12345;", 3);
        KIT.faulty(WIPE + "mood ^lib", 3);
    }

    // ---- fault 4: numbers that can't be

    static void promise05_aClaimsFirstMinuteAbove179_atItsFirstByte() {
        KIT.faulty(HOUSE + "says ann lib ^180 181;", 4);
        KIT.faulty(HOUSE + "says ann lib ^0180 1;", 4);
        KIT.faulty(HOUSE + "says ann lib ^9999 1;", 4);
        KIT.faulty(HOUSE + "says ann lib ^180", 4);
        KIT.faulty(HOUSE + "says ann lib ^180abcdefg;", 4);
    }

    static void promise05_aClaimsSecondMinuteAbove179_atItsFirstByte() {
        KIT.faulty(HOUSE + "says ann lib 179 ^180;", 4);
        KIT.faulty(HOUSE + "says ann lib 0 ^9999;", 4);
        KIT.faulty(HOUSE + "says ann lib 0 ^180", 4);
    }

    static void promise05_aClaimsSecondMinuteBelowTheFirst_atItsFirstByte() {
        KIT.faulty(HOUSE + "says ann lib 10 ^9;", 4);
        KIT.faulty(HOUSE + "says ann lib 1 ^0;", 4);
        KIT.faulty(HOUSE + "says ann lib 179 ^0178;", 4);
    }

    // ---- fault 5: one too many

    static void promise05_a9thRoom_atItsFirstByte() {
        KIT.faulty(Kit.many("room r#;", 8) + "^room x;", 5);
        KIT.faulty(Kit.many("room r#;", 8) + " ^room 12345", 5);
    }

    static void promise05_a17thDoor_atItsFirstByte() {
        KIT.faulty(Kit.many("room r#;", 8) + Promise04Test.doors16() + "\n^door rc rg;", 5);
        KIT.faulty(Kit.many("room r#;", 8) + Promise04Test.doors16() + "^door ra rb;", 5);
    }

    static void promise05_a9thPerson_atItsFirstByte() {
        KIT.faulty("room a;" + Kit.many("who p# in a;", 8) + "^who x in a;", 5);
    }

    static void promise05_a9thThing_atItsFirstByte() {
        KIT.faulty("room a;" + Kit.many("thing p# in a;", 8) + "^thing", 5);
    }

    static void promise05_a13thClaim_atItsFirstByte() {
        KIT.faulty("room a;who p in a;" + Kit.many("says p a 0 1;", 12) + "^says p a 200 1;", 5);
    }

    static void promise05_a31stRule_ofWhateverKind_atItsFirstByte() {
        String rules = HOUSE + Kit.many("wipe ann when all;", 29) + "go ann lib when all;";
        KIT.whole(rules, 35);
        for (String kind : new String[] {"go", "take", "lay", "wipe", "feel", "kill"}) {
            KIT.faulty(rules + "^" + kind + " ann", 5);
        }
    }

    static void promise05_oneTooManyOfEachSort_whenAllAreAtTheirMost() {
        for (String sort : new String[] {"room", "door", "who", "thing", "says", "go"}) {
            KIT.faulty(Promise04Test.most() + " ^" + sort, 5);
        }
    }

    static void promise05_a9thBracketOpenAtOnce_atItself() {
        KIT.faulty(WIPE + "((((((((^(1)))))))))<2;", 5);
        KIT.faulty(WIPE + "[[[[[[[[^[all]]]]]]]]];", 5);
        KIT.faulty(WIPE + "[[[[((((^(1)))))<2]]]];", 5);
        KIT.faulty(WIPE + "[[[[[[[[^(1)<2]]]]]]]];", 5);
        KIT.faulty(HOUSE + "feel ann ((((((((^(", 5);
    }

    static void promise05_a9thBracketOfMinOrMax_atItself() {
        KIT.faulty(WIPE + "[[[[((((min^(1,2)))))<2]]]];", 5);
        KIT.faulty(WIPE + "((((((((max ^(1,2)))))))))<2;", 5);
        KIT.faulty(WIPE + "min(1,max(1,min(1,max(1,min(1,max(1,min(1,max(1,^(2)))))))))<2;", 5);
    }

    static void promise05_a9thBracketAfterOthersWereClosed_atItself() {
        KIT.faulty(WIPE + "(1)<2 and [all] and ((((((((^(1)))))))))<2;", 5);
        KIT.faulty(WIPE + "[(1)<2 and [[[[[[[^[", 5);
        KIT.faulty(WIPE + "(((((((1)+((^(", 5);
    }

    static void promise05_aBracketWhereNoneMayStand_isFault1_howeverManyAreOpen() {
        KIT.faulty(WIPE + "((((((((^[1", 1);
        KIT.faulty(WIPE + "((((((((1^(", 1);
        KIT.faulty(WIPE + "min^[", 1);
    }

    // ---- the first along the text

    static void promise05_firstAlongTheText_whateverComesBehind() {
        KIT.faulty("room a;room ^a;who b in x;says q r 999 1;;", 2);
        KIT.faulty("room a;who b in ^x;room a;;", 3);
        KIT.faulty("room a;who b in a;says b a ^999 1;room a;", 4);
        KIT.faulty(Kit.many("room r#;", 8) + "^room ra;;", 5);
        KIT.faulty("room a;^;room a;", 1);
    }

    static void promise05_firstAlongTheText_aNameAheadOfWhatIsTooLong() {
        KIT.faulty("room a;room ^a abcdefg;", 2);
        KIT.faulty("room a;who b in ^c 12345;", 3);
        KIT.faulty("room a;who b in a;says b a ^999 12345;", 4);
        KIT.faulty("room a;who b in a;says b a ^999\u0001;", 4);
    }

    static void promise05_firstAlongTheText_tooLongAheadOfAll() {
        KIT.faulty("room abcdef^g;room a;room a;", 1);
        KIT.faulty("room a;who abcdef^g in x;", 1);
    }
}
