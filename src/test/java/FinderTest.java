/** Promises 23 to 28: what a finder can know, and claims. */
public final class FinderTest {
    private static final Kit KIT = new Kit();
    private static final int ANN = 1;
    private static final int BOB = 2;
    private static final int CAT = 4;
    private static final int DAN = 8;
    /** Ann fetches a knife and kills Bob in minute 3; Cat and Dan sit in the hall. */
    private static final String MURDER = "room hall;room lib;room din;door hall lib;door lib din;"
        + "who ann in hall;who bob in din;who cat in hall;who dan in hall;thing knife in lib;"
        + "take ann knife when all;go ann lib when not has ann knife;go ann din when has ann knife;"
        + "kill ann bob knife when all;";

    public static void main(String[] args) {
        spans();
        could();
        least();
        unfair();
        firstDead();
        eachAlone();
        refused();
        claims();
        KIT.close();
    }

    private static void span(SnowHouse x, int victim, int asked, int first, int last) {
        KIT.due("span(" + victim + ", " + asked + ", false)", x.span(victim, asked, false), first);
        KIT.due("span(" + victim + ", " + asked + ", true)", x.span(victim, asked, true), last);
    }

    private static void spans() {
        SnowHouse x = Kit.told(MURDER + "go cat din when minute=5;go dan din when minute=0 or minute=6;"
            + "go dan din when minute=1;go dan hall when minute=2 or minute=3;go cat lib when minute=4;");
        x.run(8);
        KIT.due("the deed", x.deed(0, 3), 3);
        span(x, 1, 0, 0, 7);
        span(x, 1, ANN, 3, 3);
        span(x, 1, BOB, 0, 7);
        span(x, 1, CAT, 0, 5);
        // Dan saw him alive in minute 1, and came back only after the evening
        span(x, 1, DAN, 2, 7);
        span(x, 1, CAT + DAN, 2, 5);
        span(x, 1, ANN + BOB + CAT + DAN, 3, 3);
        x.run(4);
        span(x, 1, 0, 0, 3);
        span(x, 1, CAT + DAN, 2, 3);
    }

    private static void could() {
        SnowHouse x = Kit.told(MURDER);
        x.run(4);
        KIT.due("nobody asked", x.could(1, 0, 4), ANN + CAT + DAN);
        KIT.due("cat asked", x.could(1, CAT, 4), ANN + CAT);
        KIT.due("dan asked", x.could(1, DAN, 4), ANN + DAN);
        KIT.due("both asked", x.could(1, CAT + DAN, 4), ANN);
        KIT.due("ann asked", x.could(1, ANN, 7), ANN + CAT + DAN);
        KIT.due("the dead count for nobody", x.could(1, BOB + CAT, 7), ANN + CAT);
        KIT.due("its room is not looked at", x.could(1, CAT, 3), -1);
        KIT.due("no room is looked at", x.could(1, CAT, 0), -1);
        // who is seen dead is cleared, and who is seen in the victim's room is not
        SnowHouse y = Kit.told("room a;room b;door a b;who p in a;who q in a;who r in b;who s in b;thing k in a;"
            + "take p k when all;kill p q k when minute=1;go p b when minute=2;go r a when minute=2;"
            + "kill p s k when minute=3;go r b when minute=4;");
        y.run(6);
        KIT.due("two deeds", y.has(7), 2);
        // r saw q dead in minute 2 and p, coming, nowhere; s it saw alive in b until minute 1
        KIT.due("span of q", y.span(1, 4, true), 2);
        KIT.due("of q", y.could(1, 4, 3), 1 + 4 + 8);
        // for s the span is 2 .. 4 by r; q was dead then, but seen in minute 2 and 3 alone
        KIT.due("of s", y.could(3, 4, 2), 1 + 2 + 4);
        y.run(4);
        KIT.due("of s, p asked, too: r saw q dead", y.could(3, 5, 2), 1 + 4);
    }

    private static void least() {
        SnowHouse x = Kit.told(MURDER);
        x.run(4);
        KIT.due("least", x.least(1, false), 2);
        KIT.due("the set", x.least(1, true), CAT + DAN);
        KIT.due("fair", x.fair(1), 1);
        SnowHouse two = Kit.told("room a;who p in a;who q in a;thing k in a;take p k when all;kill p q k when all;");
        two.run(2);
        KIT.due("nobody need be asked", two.least(1, false), 0);
        KIT.due("the empty set", two.least(1, true), 0);
        KIT.due("fair", two.fair(1), 1);
        // three sit together: any two of them tell of all three; the least number counts
        SnowHouse three = Kit.told("room a;room b;who p in a;who q in a;who r in b;who s in b;who t in b;thing k in a;"
            + "take p k when all;kill p q k when all;");
        three.run(2);
        KIT.due("two of three", three.least(1, false), 2);
        KIT.due("the least number", three.least(1, true), 4 + 8);
    }

    private static void unfair() {
        SnowHouse x = Kit.told(MURDER + "room attic;who eve in attic;");
        x.run(4);
        KIT.due("nobody saw eve", x.could(1, 31, 15), ANN + 16);
        KIT.due("never known", x.least(1, false), -1);
        KIT.due("never known", x.least(1, true), -1);
        KIT.due("not fair", x.fair(1), 0);
    }

    /** The first person, too, counts for nobody once it is dead: its eyes are closed. */
    private static void firstDead() {
        SnowHouse x = Kit.told("room a;room b;door a b;who v in a;who w in b;who p in a;who q in b;thing k in a;"
            + "take p k when all;kill p v k when all;go p b when dead v;kill p w k when at p b;"
            + "go q a when minute=2;go v b when minute=0;go v a when minute=1;says q a 0 0;says p b 1 1;says w a 1 1;");
        KIT.due("deeds", x.run(5), 2);
        KIT.due("v died in minute", x.deed(0, 3), 1);
        KIT.due("w died in minute", x.deed(1, 3), 3);
        span(x, 1, 1, 0, 4);
        span(x, 1, 1 + 4, 3, 3);
        KIT.due("v tells nothing", x.could(1, 1, 2), 1 + 4 + 8);
        // v saw q in b in minute 0, w did, too; both are dead at the end
        claim(x, 0, 1, -1, -1);
        claim(x, 1, 1, -1, -1);
        claim(x, 2, 2, 3, 1);
    }

    /** Each question answers by itself, whatever was asked ahead of it. */
    private static void eachAlone() {
        for (int order = 0; order < 3; order++) {
            SnowHouse x = Kit.told(MURDER + "room attic;who eve in attic;");
            x.run(4);
            x.begin(4, 0);
            if (order == 0) {
                KIT.due("fair", x.fair(1), 0);
            }
            x.fairest(0);
            KIT.due("fair", x.fair(1), 0);
            x.run(4);
            if (order == 1) {
                KIT.due("fair", x.fair(1), 1);
            }
            KIT.due("could", x.could(1, CAT + DAN, 7), ANN);
            KIT.due("least", x.least(1, true), CAT + DAN);
            x.anew();
            x.run(4);
            KIT.due("fair", x.fair(1), 0);
            KIT.due("least", x.least(1, true), -1);
        }
    }

    private static void refused() {
        SnowHouse x = Kit.told(MURDER);
        KIT.due("no evening", x.span(1, 0, false), -1);
        KIT.due("no evening", x.could(1, 0, 7), -1);
        KIT.due("no evening", x.least(1, true), -1);
        KIT.due("no evening", x.fair(1), -1);
        x.run(4);
        int[] odd = {0, 2, 3, 4, -1, Integer.MIN_VALUE, Integer.MAX_VALUE};
        for (int victim : odd) {
            KIT.due("span of " + victim, x.span(victim, 0, true), -1);
            KIT.due("could of " + victim, x.could(victim, 0, 7), -1);
            KIT.due("least of " + victim, x.least(victim, false), -1);
            KIT.due("fair of " + victim, x.fair(victim), -1);
        }
        int[] sets = {16, -1, 31, Integer.MIN_VALUE};
        for (int set : sets) {
            KIT.due("span by " + set, x.span(1, set, false), -1);
            KIT.due("could by " + set, x.could(1, set, 7), -1);
            KIT.due("could in " + set, x.could(1, 0, set == 31 ? 8 : set), -1);
        }
        x.run(3);
        KIT.due("alive as yet", x.span(1, 0, false), -1);
        KIT.due("alive as yet", x.fair(1), -1);
    }

    private static void claim(SnowHouse x, int k, int claim, int who, int minute) {
        KIT.due("claim(" + k + ")", x.claim(k), claim);
        KIT.due("caught(" + k + ", true)", x.caught(k, true), who);
        KIT.due("caught(" + k + ", false)", x.caught(k, false), minute);
    }

    private static void claims() {
        SnowHouse x = Kit.told(MURDER + "says ann hall 0 3;says cat hall 0 179;says dan lib 2 3;says bob hall 3 3;"
            + "says ann hall 100 120;says ann lib 0 1;says ann lib 1 2;says cat din 3 179;says ann din 4 8;"
            + "go dan din when minute=5;");
        claim(x, 0, -1, -1, -1);
        x.run(4);
        claim(x, 0, 1, -1, -1);
        claim(x, 1, 0, -1, -1);
        claim(x, 2, 2, 2, 2);
        claim(x, 3, 2, 0, 3);
        claim(x, 4, 0, -1, -1);
        claim(x, 5, 0, -1, -1);
        claim(x, 6, 1, -1, -1);
        claim(x, 7, 2, 3, 3);
        claim(x, 8, 0, -1, -1);
        claim(x, 9, -1, -1, -1);
        claim(x, -1, -1, -1, -1);
        claim(x, Integer.MAX_VALUE, -1, -1, -1);
        // in three minutes Bob is alive at the end, and has seen her in the dining room
        x.run(3);
        claim(x, 0, 2, 1, 2);
        claim(x, 6, 2, 1, 2);
        claim(x, 3, 0, -1, -1);
        // the first minute counts, and of like ones the least number, not that of the claim's own
        SnowHouse y = Kit.told("room a;room b;door a b;who p in a;who q in a;who r in b;who s in a;"
            + "go p b when minute=2;says q b 0 9;says p a 0 9;says r a 0 1;says r a 1 2;");
        y.run(5);
        claim(y, 0, 2, 0, 0);
        claim(y, 1, 2, 2, 2);
        claim(y, 2, 1, -1, -1);
        claim(y, 3, 2, 0, 2);
    }
}
