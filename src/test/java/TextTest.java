/** Promises 1 to 7: a new object, the tape, the text, its faults and its names. */
public final class TextTest {
    private static final Kit KIT = new Kit();
    private static final String HOUSE = "room hall;room lib;who ann in hall;who bob in lib;thing cup in lib;";

    public static void main(String[] args) {
        newObject();
        tape();
        text();
        words();
        names();
        numbers();
        tooMany();
        brackets();
        afterFault();
        has();
        letters();
        KIT.close();
    }

    private static void newObject() {
        SnowHouse x = new SnowHouse();
        for (int what = -1; what < 10; what++) {
            KIT.due("new has(" + what + ")", x.has(what), what < 0 || what > 8 ? -1 : 0);
        }
        KIT.due("new fault(0)", x.fault(0), 0);
        KIT.due("new fault(1)", x.fault(1), -1);
        KIT.due("new letter", x.letter(0, 0, 0), -1);
        KIT.due("new was", x.was(0, 0), -1);
        KIT.due("new mood", x.mood(0, 0), -2000000000);
        KIT.due("new deed", x.deed(0, 0), -1);
        KIT.due("new trace", x.trace(0, 0), -1);
        KIT.due("new claim", x.claim(0), -1);
        KIT.due("new spare", x.spare(0), -1);
        KIT.due("new fairest", x.fairest(0), -1);
        KIT.due("new least", x.least(0, false), -1);
        KIT.due("new begin", x.begin(0, 0), false);
        KIT.due("new put", x.put(0, 0), false);
        KIT.due("new skip", x.skip(0, true), false);
        KIT.due("new run of nobody", x.run(5), 0);
        KIT.due("minutes of nobody", x.has(6), 5);
    }

    private static void tape() {
        SnowHouse x = new SnowHouse();
        KIT.due("end of nothing", x.end(1), false);
        KIT.due("end(0) of nothing", x.end(0), true);
        for (int i = 1; i <= 60; i++) {
            KIT.due("feed " + i, x.feed(0x726f6f6d, 0x20613b20, 0x20202020, 0x20202020, 0x20202020), 20 * i);
        }
        KIT.due("feed beyond", x.feed(0, 0, 0, 0, 0), -1);
        KIT.due("end below", x.end(-1), false);
        KIT.due("end beyond", x.end(1201), false);
        KIT.due("end all", x.end(1200), true);
        KIT.due("end", x.end(1181), true);
        KIT.due("feed just beyond", x.feed(0, 0, 0, 0, 0), -1);
        KIT.due("end shorter", x.end(1180), true);
        KIT.due("feed to the last byte", x.feed(0x20202020, 0x20202020, 0x20202020, 0x20202020, 0x20202020), 1200);
        KIT.due("end first statement", x.end(8), true);
        KIT.due("text", x.text(), 1);
        KIT.due("the tape is gone", x.end(1), false);
        KIT.due("highest byte first", x.letter(0, 0, 0), 'a');
        KIT.due("feed anew", x.feed(0, 0, 0, 0, 0), 20);
        KIT.due("text of zeros", x.text(), -1);
        KIT.due("its place", x.fault(1), 0);
        KIT.due("gone with a fault, too", x.end(1), false);
        KIT.due("feed", x.feed(0x726f6f6d, 0x2061ffff, -1, -1, -1), 20);
        x.end(6);
        KIT.due("text ends too soon", x.text(), -1);
        KIT.due("at its length", x.fault(1), 6);
    }

    private static void text() {
        KIT.whole("", 0);
        KIT.whole(" \n ", 0);
        KIT.whole("room a;", 1);
        KIT.whole("\nroom\na ; room abcdef;door a abcdef;", 3);
        KIT.whole(HOUSE, 5);
        KIT.whole(HOUSE + "says ann lib 0 179;says bob lib 7 7;says ann hall 0010 0010;", 8);
        KIT.whole(HOUSE + "go ann lib when all;take ann cup when all;lay ann cup when all;wipe ann when all;"
            + "feel ann 1 when all;kill ann bob cup when all;", 11);
        KIT.whole(HOUSE + "wipe ann when at ann lib and has ann cup or near ann bob and alone ann or dead bob"
            + " and knows ann bob or not 1<2 and not not [1>2 or minute=mood bob];", 6);
        KIT.whole(HOUSE + "wipe ann when 1+2-3*4/5%6<min(minute,max(1,2))and(1)=((2));", 6);
        KIT.whole(HOUSE + "go bob hall when all;room attic;door attic hall;", 8);
    }

    private static void words() {
        KIT.faulty("^;", 1);
        KIT.faulty("room a;^;", 1);
        KIT.faulty("^a;", 1);
        KIT.faulty("^rooms a;", 1);
        KIT.faulty("^roo", 1);
        KIT.faulty("^Room a;", 1);
        KIT.faulty("room^", 1);
        KIT.faulty("room ^", 1);
        KIT.faulty("room a^", 1);
        KIT.faulty("room a  ^", 1);
        KIT.faulty("room ^;", 1);
        KIT.faulty("room ^room;", 1);
        KIT.faulty("room ^mood;", 1);
        KIT.faulty("room ^1;", 1);
        KIT.faulty("room a^\t;", 1);
        KIT.faulty("room a^\r;", 1);
        KIT.faulty("room a^\u0001;", 1);
        KIT.faulty("room a^0;", 1);
        KIT.faulty("room^1;", 1);
        KIT.faulty("room a^\u00e1;", 1);
        KIT.faulty("room abcdef^g;", 1);
        KIT.faulty("room abcdef^ghijk;", 1);
        KIT.faulty("abcdef^g", 1);
        KIT.faulty("room a abcdef^g", 1);
        KIT.faulty("room a; 1234^5", 1);
        KIT.faulty("room a ^b;", 1);
        KIT.faulty("room a^,", 1);
        KIT.faulty("room a;who b ^at a;", 1);
        KIT.faulty("room a;who b ^a;", 1);
        KIT.faulty("room a;who b in ^in;", 1);
        KIT.faulty(HOUSE + "go ann lib ^;", 1);
        KIT.faulty(HOUSE + "go ann lib when ^;", 1);
        KIT.faulty(HOUSE + "go ann lib when ^ann;", 1);
        KIT.faulty(HOUSE + "go ann lib when all ^all;", 1);
        KIT.faulty(HOUSE + "go ann lib when all and ^;", 1);
        KIT.faulty(HOUSE + "go ann lib when 1 ^;", 1);
        KIT.faulty(HOUSE + "go ann lib when 1 < ^;", 1);
        KIT.faulty(HOUSE + "go ann lib when 1<2^<3;", 1);
        KIT.faulty(HOUSE + "go ann lib when 1<2^];", 1);
        KIT.faulty(HOUSE + "go ann lib when (1^<2);", 1);
        KIT.faulty(HOUSE + "go ann lib when [1<2^);", 1);
        KIT.faulty(HOUSE + "go ann lib when (^[1]);", 1);
        KIT.faulty(HOUSE + "go ann lib when ^-1<2;", 1);
        KIT.faulty(HOUSE + "go ann lib when min ^1<2;", 1);
        KIT.faulty(HOUSE + "go ann lib when min(1^)<2;", 1);
        KIT.faulty(HOUSE + "go ann lib when min(1,2^,3)<2;", 1);
        KIT.faulty(HOUSE + "go ann lib when 1=1^or all;", 1);
        KIT.faulty(HOUSE + "go ann lib when not^1=1;", 1);
        KIT.faulty(HOUSE + "feel ann^1 when all;", 1);
        KIT.faulty(HOUSE + "feel ann 1^when all;", 1);
        KIT.faulty(HOUSE + "feel ann ^when all;", 1);
        KIT.faulty(HOUSE + "wipe ann ^hall when all;", 1);
        KIT.faulty(HOUSE + "go ann lib when minute^s=1;", 1);
        KIT.faulty(HOUSE + "says ann lib ^ann 2;", 1);
        KIT.faulty(HOUSE + "says ann lib 1 ^;", 1);
        KIT.faulty(HOUSE + "says ann lib 1234^5 2;", 1);
        besideAndLong();
    }

    /** A word or number beside another one is told at its first byte, however long it is. */
    private static void besideAndLong() {
        KIT.faulty("room a;who b in a;says b a^12345 ", 1);
        KIT.faulty(HOUSE + "says ann lib^12345 2;", 1);
        KIT.faulty(HOUSE + "says ann lib 12^abcdefg;", 1);
        KIT.faulty(HOUSE + "says ann lib 1 12^abcdefg;", 1);
        KIT.faulty(HOUSE + "says ann lib ^180abcdefg;", 4);
        KIT.faulty(HOUSE + "says ann ^bob12345;", 3);
        KIT.faulty("room^12345;", 1);
        KIT.faulty("room abcdef^12345;", 1);
        KIT.faulty("room abcdef^g12345;", 1);
        KIT.faulty("1234^5abcdefg", 1);
        KIT.faulty("^1234abcdefg", 1);
        KIT.faulty(HOUSE + "wipe ann when all^12345", 1);
        KIT.faulty(HOUSE + "wipe ann when 1234^abcdefg", 1);
        KIT.faulty(HOUSE + "wipe ann when 1=1^abcdefg", 1);
        KIT.faulty(HOUSE + "wipe ann when 1=1 abcdef^g", 1);
        KIT.faulty(HOUSE + "wipe ann when 1=1;abcdef^g", 1);
    }

    private static void names() {
        KIT.faulty("room a;room ^a;", 2);
        KIT.faulty("room a;who ^a in a;", 2);
        KIT.faulty(HOUSE + "thing ^ann in hall;", 2);
        KIT.faulty(HOUSE + "thing ^cup in ;", 2);
        KIT.faulty(HOUSE + "room ^cup;", 2);
        KIT.faulty(HOUSE + "door hall lib;door hall ^lib;", 2);
        KIT.faulty(HOUSE + "door hall lib;door lib ^hall;", 2);
        KIT.faulty("room a;door a ^a;", 3);
        KIT.faulty("room a;door ^b a;room b;", 3);
        KIT.faulty("room a;who b in ^b;", 3);
        KIT.faulty(HOUSE + "door hall ^ann;", 3);
        KIT.faulty(HOUSE + "door ^cup hall;", 3);
        KIT.faulty(HOUSE + "thing fox in ^ann;", 3);
        KIT.faulty(HOUSE + "go ^hall lib when all;", 3);
        KIT.faulty(HOUSE + "go ann ^cup when all;", 3);
        KIT.faulty(HOUSE + "take ann ^lib when all;", 3);
        KIT.faulty(HOUSE + "lay ann ^ann when all;", 3);
        KIT.faulty(HOUSE + "wipe ^nobody when all;", 3);
        KIT.faulty(HOUSE + "feel ^cup 1 when all;", 3);
        KIT.faulty(HOUSE + "kill ann ^ann cup when all;", 3);
        KIT.faulty(HOUSE + "kill ann ^cup bob when all;", 3);
        KIT.faulty(HOUSE + "kill ann bob ^lib when all;", 3);
        KIT.faulty(HOUSE + "says ^cup lib 1 2;", 3);
        KIT.faulty(HOUSE + "says ann ^bob 1 2;", 3);
        KIT.faulty(HOUSE + "wipe ann when at ^lib ann;", 3);
        KIT.faulty(HOUSE + "wipe ann when at ann ^bob;", 3);
        KIT.faulty(HOUSE + "wipe ann when has ann ^bob;", 3);
        KIT.faulty(HOUSE + "wipe ann when near ann ^ann;", 3);
        KIT.faulty(HOUSE + "wipe ann when near ann ^lib;", 3);
        KIT.faulty(HOUSE + "wipe ann when alone ^lib;", 3);
        KIT.faulty(HOUSE + "wipe ann when dead ^cup;", 3);
        KIT.faulty(HOUSE + "wipe ann when knows bob ^bob;", 3);
        KIT.faulty(HOUSE + "wipe ann when mood ^lib>1;", 3);
        KIT.faulty(HOUSE + "wipe ann when mood ^>1;", 1);
    }

    private static void numbers() {
        KIT.faulty(HOUSE + "says ann lib ^180 181;", 4);
        KIT.faulty(HOUSE + "says ann lib 179 ^180;", 4);
        KIT.faulty(HOUSE + "says ann lib 10 ^9;", 4);
        KIT.faulty(HOUSE + "says ann lib ^9999 1;", 4);
        KIT.whole(HOUSE + "feel ann 9999 when all;says ann lib 0 0;", 7);
    }

    private static String many(String statement, int times) {
        StringBuilder all = new StringBuilder();
        for (int i = 0; i < times; i++) {
            all.append(statement.replace('#', (char) ('a' + i)));
        }
        return all.toString();
    }

    private static void tooMany() {
        String rooms = many("room r#;", 8);
        KIT.whole(rooms, 8);
        KIT.faulty(rooms + "^room x;", 5);
        KIT.faulty(rooms + " ^room 12345", 5);
        KIT.faulty(rooms + many("who p# in ra;", 8) + "^who x in ra;", 5);
        KIT.faulty(rooms + many("thing t# in ra;", 8) + "^thing", 5);
        KIT.faulty(rooms + "who p in ra;" + many("says p ra 0 1;", 12) + "^says", 5);
        String doors = many("door ra r#;", 8).replace("door ra ra;", "") + many("door rb r#;", 8)
            .replace("door rb ra;", "").replace("door rb rb;", "") + "door rc rd;door rc re;door rc rf;";
        KIT.whole(rooms + doors, 24);
        KIT.faulty(rooms + doors + "^door rc rg;", 5);
        String rules = "room a;who p in a;" + many("wipe p when all;", 29) + "go p a when all;";
        KIT.whole(rules, 32);
        KIT.faulty(rules + "^feel p 1 when all;", 5);
        KIT.faulty(rules + "^kill", 5);
    }

    private static void brackets() {
        String head = "room a;who p in a;wipe p when ";
        KIT.whole(head + "((((((((1))))))))<2;", 3);
        KIT.faulty(head + "((((((((^(1)))))))))<2;", 5);
        KIT.whole(head + "[[[[[[[[all]]]]]]]];", 3);
        KIT.faulty(head + "[[[[[[[[^[all]]]]]]]]];", 5);
        KIT.whole(head + "[[[[((((1))))<2]]]];", 3);
        KIT.faulty(head + "[[[[((((^(1)))))<2]]]];", 5);
        KIT.faulty(head + "[[[[((((min^(1,2)))))<2]]]];", 5);
        KIT.faulty(head + "((((((((^[1", 1);
        KIT.whole(head + "((1))<2 and [all] or [((((((1))))))=1];", 3);
        StringBuilder nots = new StringBuilder();
        for (int i = 0; i < 280; i++) {
            nots.append("not ");
        }
        KIT.whole(head + nots + "all;", 3);
        StringBuilder sum = new StringBuilder("1");
        while (sum.length() < 1100) {
            sum.append("+1");
        }
        KIT.whole(head + sum + "=551;", 3);
    }

    private static void afterFault() {
        SnowHouse x = Kit.told(HOUSE + "feel ann 1 when all;");
        x.begin(0, 1);
        KIT.due("run", x.run(3), 0);
        KIT.due("faulty text", Kit.text(x, "room x;room y;who z in q;"), -1);
        KIT.due("fault", x.fault(0), 3);
        KIT.due("place", x.fault(1), 23);
        KIT.due("no such fault", x.fault(2), -1);
        KIT.due("no such fault", x.fault(-1), -1);
        KIT.due("rooms stay", x.has(0), 2);
        KIT.due("letters stay", x.letter(0, 0, 0), 'h');
        KIT.due("the evening stays", x.mood(0, 2), 3);
        KIT.due("changes stay", x.was(0, 2), 1);
        x.run(2);
        KIT.due("changes stay for the next evening", x.was(0, 1), 1);
        KIT.due("whole text", Kit.text(x, HOUSE + "feel ann 1 when all;"), 6);
        KIT.due("no fault", x.fault(0), 0);
        KIT.due("no place", x.fault(1), -1);
        KIT.due("no evening", x.has(6), 0);
        KIT.due("no evening", x.was(0, 0), -1);
        x.run(1);
        KIT.due("no changes", x.was(0, 0), 0);
    }

    private static void has() {
        SnowHouse x = Kit.told(HOUSE + "door lib hall;go ann lib when all;take ann cup when all;says ann lib 0 1;"
            + "says ann lib 0 2;says bob lib 0 0;");
        int[] want = {2, 1, 2, 1, 2, 3, 0, 0, 0};
        for (int what = 0; what < 9; what++) {
            KIT.due("has(" + what + ")", x.has(what), want[what]);
        }
        x.run(4);
        KIT.due("minutes", x.has(6), 4);
        KIT.due("traces", x.has(8), 1);
        KIT.due("has(9)", x.has(9), -1);
        KIT.due("has(-1)", x.has(-1), -1);
    }

    private static void letters() {
        SnowHouse x = Kit.told("room a;room zzzzzz;who b in a;thing knife in a;thing az in a;");
        String[][] names = {{"a", "zzzzzz"}, {"b"}, {"knife", "az"}};
        for (int kind = -1; kind < 4; kind++) {
            for (int which = -1; which < 3; which++) {
                for (int k = -1; k < 8; k++) {
                    boolean there = kind >= 0 && kind < 3 && which >= 0 && which < names[kind].length
                        && k >= 0 && k < names[kind][which].length();
                    KIT.due("letter(" + kind + ", " + which + ", " + k + ")", x.letter(kind, which, k),
                        there ? names[kind][which].charAt(k) : -1);
                }
            }
        }
        KIT.due("letter far off", x.letter(0, 0, Integer.MIN_VALUE), -1);
        KIT.due("letter far off", x.letter(0, Integer.MAX_VALUE, 0), -1);
    }
}
