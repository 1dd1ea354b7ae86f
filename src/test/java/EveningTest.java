/** Promises 8 to 22: breakfasts and evenings. */
public final class EveningTest {
    private static final Kit KIT = new Kit();
    private static final String HOUSE = "room hall;room lib;room din;door hall lib;door lib din;"
        + "who ann in hall;who bob in din;thing knife in lib;";
    /** She fetches the knife, goes to him, kills, wipes and lays the knife down. */
    private static final String MURDER = HOUSE + "take ann knife when all;go ann lib when not has ann knife;"
        + "go ann din when has ann knife;kill ann bob knife when all;wipe ann when dead bob;"
        + "lay ann knife when dead bob;";

    public static void main(String[] args) {
        murder();
        breakfast();
        refused();
        sums();
        tests();
        ways();
        turns();
        kills();
        knowledge();
        needed();
        KIT.close();
    }

    private static void row(String what, int[] want, java.util.function.IntUnaryOperator got) {
        for (int i = 0; i < want.length; i++) {
            KIT.due(what + " " + i, got.applyAsInt(i), want[i]);
        }
    }

    private static void murder() {
        SnowHouse x = Kit.told(MURDER);
        KIT.due("run(3)", x.run(3), 0);
        KIT.due("run(8)", x.run(8), 1);
        KIT.due("deeds", x.has(7), 1);
        row("was ann", new int[] {1, 1, 2, 2, 2, 2, 2, 2, -1}, m -> x.was(0, m));
        row("was bob", new int[] {2, 2, 2, 2, 2, 2, 2, 2, -1}, m -> x.was(1, m));
        row("did ann", new int[] {1, 0, 2, 3, 4, 5, 0, 4, -1}, m -> x.did(0, m));
        row("did bob", new int[] {-1, -1, -1, -1, -1}, m -> x.did(1, m));
        row("alive bob", new int[] {1, 1, 1, 0, 0, 0, 0, 0, -1}, m -> x.alive(1, m));
        row("alive ann", new int[] {1, 1, 1, 1, 1, 1, 1, 1, -1}, m -> x.alive(0, m));
        row("where knife", new int[] {1, 100, 100, 100, 100, 2, 100, 100, -1}, m -> x.where(0, m));
        row("deed", new int[] {0, 1, 0, 3, 2, 3, -1}, what -> x.deed(0, what));
        KIT.due("no such deed", x.deed(1, 0), -1);
        KIT.due("no such deed", x.deed(-1, 0), -1);
        KIT.due("no such part", x.deed(0, -1), -1);
        KIT.due("traces", x.has(8), 4);
        row("trace 0", new int[] {1, 1, 0, 0, 1, -1, -1}, what -> x.trace(0, what));
        row("trace 1", new int[] {3, 3, 0, 0, 2, 4, -1}, what -> x.trace(1, what));
        row("trace 2", new int[] {5, 2, 0, 0, 2, 7, -1}, what -> x.trace(2, what));
        row("trace 3", new int[] {6, 1, 0, 0, 2, 7, -1}, what -> x.trace(3, what));
        row("trace 4", new int[] {-1, -1, -1, -1, -1, -1, -1}, what -> x.trace(4, what));
        KIT.due("no such part", x.trace(0, -1), -1);
        KIT.due("no such trace", x.trace(-1, 0), -1);
        row("ann saw bob", new int[] {0, 0, 1, 2, 2, 2, 2, 2, -1}, m -> x.saw(0, 1, m));
        row("bob saw ann", new int[] {0, 0, 1, 0, 0, 0, 0, 0, -1}, m -> x.saw(1, 0, m));
        KIT.due("nobody sees itself", x.saw(0, 0, 2), 0);
        KIT.due("ann knows", x.knows(0, 1), 3);
        KIT.due("bob knows not", x.knows(1, 0), -1);
        KIT.due("of itself", x.knows(1, 1), -1);
    }

    private static void breakfast() {
        SnowHouse x = Kit.told(MURDER);
        KIT.due("begin", x.begin(0, 1), true);
        KIT.due("run", x.run(6), 1);
        KIT.due("she begins where the knife lies", x.deed(0, 3), 2);
        KIT.due("put", x.put(0, 2), true);
        KIT.due("skip", x.skip(1, true), true);
        KIT.due("the evening stays", x.has(7), 1);
        KIT.due("she never goes for it", x.run(6), 0);
        KIT.due("where", x.where(0, 5), 2);
        KIT.due("skip back", x.skip(1, false), true);
        KIT.due("skip back again", x.skip(1, false), true);
        KIT.due("begin", x.begin(0, 2), true);
        KIT.due("run", x.run(2), 1);
        row("deed", new int[] {0, 1, 0, 1, 2, 3}, what -> x.deed(0, what));
        x.anew();
        KIT.due("the evening stays", x.deed(0, 3), 1);
        KIT.due("run", x.run(4), 1);
        KIT.due("as told", x.deed(0, 3), 3);
        KIT.due("begin as told", x.begin(0, 0), true);
        KIT.due("begin", x.begin(1, 0), true);
        KIT.due("the evening stays", x.was(1, 0), 2);
        KIT.due("run", x.run(1), 0);
        KIT.due("bob begins in the hall", x.was(1, 0), 0);
    }

    private static void refused() {
        SnowHouse x = Kit.told(MURDER);
        KIT.due("begin", x.begin(2, 0), false);
        KIT.due("begin", x.begin(-1, 0), false);
        KIT.due("begin", x.begin(0, 3), false);
        KIT.due("begin", x.begin(0, -1), false);
        KIT.due("put", x.put(1, 0), false);
        KIT.due("put", x.put(-1, 0), false);
        KIT.due("put", x.put(0, 3), false);
        KIT.due("put", x.put(0, -1), false);
        KIT.due("skip", x.skip(6, true), false);
        KIT.due("skip", x.skip(-1, true), false);
        for (int what = 0; what < 3; what++) {
            KIT.due("was ahead of any evening", x.was(0, what), -1);
        }
        KIT.due("knows ahead of any evening", x.knows(0, 1), -1);
        KIT.due("needed ahead of any evening", x.needed(0, 0), -1);
        KIT.due("run", x.run(180), 1);
        KIT.due("run(0)", x.run(0), -1);
        KIT.due("run(-1)", x.run(-1), -1);
        KIT.due("run(181)", x.run(181), -1);
        KIT.due("the evening stays", x.has(6), 180);
        KIT.due("the last minute", x.was(0, 179), 2);
        int[] odd = {-1, 180, Integer.MIN_VALUE, Integer.MAX_VALUE};
        for (int m : odd) {
            KIT.due("was", x.was(0, m), -1);
            KIT.due("alive", x.alive(0, m), -1);
            KIT.due("where", x.where(0, m), -1);
            KIT.due("did", x.did(0, m), -1);
            KIT.due("mood", x.mood(0, m), -2000000000);
            KIT.due("saw", x.saw(0, 1, m), -1);
            KIT.due("was nobody", x.was(m == 180 ? 2 : m, 0), -1);
            KIT.due("alive nobody", x.alive(m == 180 ? 2 : m, 0), -1);
            KIT.due("where nothing", x.where(m == 180 ? 1 : m, 0), -1);
            KIT.due("did nobody", x.did(m == 180 ? 2 : m, 0), -1);
            KIT.due("mood nobody", x.mood(m == 180 ? 2 : m, 0), -2000000000);
            KIT.due("saw nobody", x.saw(0, m == 180 ? 2 : m, 0), -1);
            KIT.due("nobody saw", x.saw(m == 180 ? 2 : m, 0, 0), -1);
            KIT.due("nobody knows", x.knows(m == 180 ? 2 : m, 0), -1);
            KIT.due("knows nobody", x.knows(0, m == 180 ? 2 : m), -1);
            KIT.due("needed", x.needed(m == 180 ? 6 : m, 0), -1);
            KIT.due("needed", x.needed(0, m == 180 ? 1 : m), -1);
        }
    }

    private static void worth(String sum, int want) {
        SnowHouse x = Kit.told("room a;who p in a;feel p " + sum + " when all;");
        x.run(1);
        KIT.due(sum, x.mood(0, 0), want);
    }

    private static void sums() {
        worth("5", 5);
        worth("0012", 12);
        worth("10-3-2", 5);
        worth("2+3*4", 14);
        worth("(2+3)*4", 20);
        worth("100/5/2", 10);
        worth("7%4*2", 6);
        worth("20-7%4", 17);
        worth("7/2", 3);
        worth("(0-7)/2", -4);
        worth("7/(0-2)", -4);
        worth("(0-7)/(0-2)", 3);
        worth("(0-7)%2", 1);
        worth("7%(0-2)", -1);
        worth("(0-7)%(0-2)", -1);
        worth("7/0", 0);
        worth("7%0", 0);
        worth("min(3,5)+max(3,5)*10", 53);
        worth("max(min(9,8),min(7,0-1))", 8);
        worth("9999*9999", 1000000);
        worth("0-9999*9999-1", -1000000);
        worth("9999*9999+1-1", 999999);
        worth("(0-9999)*9999+1", -999999);
        worth("9999*101-9999", 990001);
        worth("1000*1000", 1000000);
        worth("(0-9999*9999)*(9999*9999)", -1000000);
        SnowHouse x = Kit.told("room a;who p in a;who q in a;feel p 9999*99 when all;feel p minute when all;"
            + "feel q 0-9999*60 when all;feel q mood p/1000 when minute=3;");
        x.run(4);
        row("mood p", new int[] {989901, 1000000, 1000000, 1000000}, m -> x.mood(0, m));
        row("mood q", new int[] {-599940, -1000000, -1000000, -999000}, m -> x.mood(1, m));
    }

    private static void holds(String test, boolean want) {
        SnowHouse x = Kit.told("room a;room b;who p in a;who q in b;who r in a;thing t in a;take r t when all;"
            + "feel p 1 when " + test + ";");
        x.run(2);
        KIT.due(test, x.mood(0, 1) - x.mood(0, 0), want ? 1 : 0);
    }

    private static void tests() {
        holds("all", true);
        holds("not all", false);
        holds("not not all", true);
        holds("not [all and not all]", true);
        holds("all or all and not all", true);
        holds("[all or all] and not all", false);
        holds("not all or all", true);
        holds("not all and all or all", true);
        holds("not all or not all or all", true);
        holds("all and all and not all", false);
        holds("not all and all and all or not all or not all", false);
        holds("1<2", true);
        holds("2<2", false);
        holds("2>1", true);
        holds("2>2", false);
        holds("2=2", true);
        holds("minute=1", true);
        holds("at p a", true);
        holds("at p b", false);
        holds("has r t", true);
        holds("has p t", false);
        holds("near p r", true);
        holds("near p q", false);
        holds("alone q", true);
        holds("alone p", false);
        holds("dead p", false);
        holds("knows p q", false);
        holds("mood p=1 or mood p=0", true);
        holds("(1)+2=3 and min(4,5)=4", true);
    }

    private static void ways() {
        SnowHouse x = Kit.told("room a;room b;room c;room d;room e;door c d;door d b;door a c;door b a;"
            + "who p in a;who q in e;go p e when minute=0;go p a when minute=0;go p d when minute=1;"
            + "go p d when minute=2;go p d when minute=3;go q a when all;");
        x.run(4);
        row("was p", new int[] {0, 1, 3, 3}, m -> x.was(0, m));
        row("did p", new int[] {-1, 2, 3, -1}, m -> x.did(0, m));
        row("did q", new int[] {-1, -1, -1, -1}, m -> x.did(1, m));
        SnowHouse y = Kit.told("room a;room b;room c;room d;who p in a;go p d when all;door a b;door b c;door c d;"
            + "door a d;");
        y.run(1);
        KIT.due("the nearest way", y.was(0, 0), 3);
    }

    private static void turns() {
        // the mood that a turn's feels give is there for its other rules, and feels see one another
        SnowHouse x = Kit.told("room a;room b;door a b;who p in a;go p b when mood p=3;feel p 1 when all;"
            + "feel p 2 when mood p=1;feel p 9-mood p when mood p>3;");
        x.run(2);
        row("did", new int[] {0, -1}, m -> x.did(0, m));
        row("mood", new int[] {3, 9}, m -> x.mood(0, m));
        // persons have their turns by numbers: the second one sees where the first one is by now
        SnowHouse y = Kit.told("room a;room b;door a b;who p in a;who q in a;go p b when all;go q b when at p b;"
            + "feel p 1 when at q b;");
        y.run(2);
        row("q", new int[] {1, 1}, m -> y.was(1, m));
        row("p", new int[] {0, 1}, m -> y.mood(0, m));
        // the first rule that can be done is, not the first whose test holds
        SnowHouse z = Kit.told("room a;room b;who p in a;thing t in b;thing u in a;take p t when all;go p b when all;"
            + "lay p u when all;wipe p when all;take p u when all;");
        z.run(4);
        row("did", new int[] {4, 2, 3, 4}, m -> z.did(0, m));
    }

    private static void kills() {
        String head = "room a;room b;door a b;who p in a;who q in a;who r in a;thing k in a;thing c in a;";
        SnowHouse x = Kit.told(head + "take p k when all;kill p q k when all;take q c when all;"
            + "feel q 1 when all;go q b when minute>1;go r b when minute=2;");
        x.run(5);
        row("not with a third one there", new int[] {0, -1, -1, -1, -1}, m -> x.did(0, m));
        KIT.due("no deed", x.has(7), 0);
        SnowHouse y = Kit.told(head + "take p k when all;take q c when all;kill p q k when all;feel q 1 when all;"
            + "go r b when minute=2;go r a when minute=4;kill r p c when all;take r c when all;"
            + "go p b when minute=5;go p a when minute=6;");
        y.run(8);
        // r is gone only at the end of its turn in minute 2: p kills q in minute 3, ahead of q's turn
        row("p", new int[] {0, -1, -1, 2, -1, 8, 9, -1}, m -> y.did(0, m));
        row("q feels", new int[] {1, 2, 3, 3, 3, 3, 3, 3}, m -> y.mood(1, m));
        row("what q carried lies there", new int[] {101, 101, 101, 0, 0, 102, 102, 102}, m -> y.where(1, m));
        row("what p carries stays with it till death", new int[] {100, 100, 100, 100, 100, 100, 0, 0}, m -> y.where(0, m));
        row("r", new int[] {-1, -1, 4, -1, 5, 7, 6, -1}, m -> y.did(2, m));
        KIT.due("two deeds", y.has(7), 2);
        row("the second", new int[] {2, 0, 1, 6, 0, 6}, what -> y.deed(1, what));
        KIT.due("both dead", y.alive(0, 7) + y.alive(1, 7), 0);
        KIT.due("r sees p dead", y.saw(2, 0, 6), 2);
        KIT.due("the dead see nothing", y.saw(0, 2, 6), 0);
        KIT.due("kill is a trace", y.trace(2, 1), 3);
    }

    private static void knowledge() {
        SnowHouse x = Kit.told("room a;room b;door a b;who p in a;who q in a;who r in b;thing k in a;"
            + "take p k when all;kill p q k when all;go r a when minute=3;feel r 1 when knows r q;"
            + "feel p 1 when knows p q;go p b when minute=4;");
        x.run(6);
        KIT.due("p knows", x.knows(0, 1), 1);
        KIT.due("r knows", x.knows(2, 1), 3);
        KIT.due("q knows nothing", x.knows(1, 0), -1);
        KIT.due("r does not know of p", x.knows(2, 0), -1);
        row("from the end of the minute on", new int[] {0, 0, 0, 0, 1, 2}, m -> x.mood(2, m));
        row("from the end of the minute on", new int[] {0, 0, 1, 2, 3, 4}, m -> x.mood(0, m));
        row("r saw q", new int[] {0, 0, 0, 2, 2, 2}, m -> x.saw(2, 1, m));
        row("p saw r", new int[] {0, 0, 0, 1, 0, 0}, m -> x.saw(0, 2, m));
    }

    private static void needed() {
        SnowHouse x = Kit.told(MURDER);
        x.run(8);
        row("needed", new int[] {1, 1, 1, 1, 0, 0, -1}, rule -> x.needed(rule, 0));
        x.run(3);
        row("no deed", new int[] {-1, -1, -1}, rule -> x.needed(rule, 0));
        // two rules each of which is enough: none is needed; the one left out is not, either
        SnowHouse y = Kit.told("room a;who p in a;who q in a;thing k in a;take p k when all;kill p q k when minute>1;"
            + "kill p q k when minute>2;take p k when minute>8;");
        y.run(4);
        row("one of two", new int[] {1, 0, 0, 0}, rule -> y.needed(rule, 0));
        y.skip(1, true);
        row("as it was when it was let go", new int[] {1, 0, 0, 0}, rule -> y.needed(rule, 0));
        y.run(4);
        KIT.due("by the other rule", y.deed(0, 5), 2);
        row("with one left out", new int[] {1, 0, 1, 0}, rule -> y.needed(rule, 0));
        y.anew();
        row("with one left out then", new int[] {1, 0, 1, 0}, rule -> y.needed(rule, 0));
        y.run(3);
        row("the other one comes too late", new int[] {1, 1, 0, 0}, rule -> y.needed(rule, 0));
    }
}
