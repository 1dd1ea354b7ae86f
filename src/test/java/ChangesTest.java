/** Promises 29 and 30: the least change that spares all, and the fairest evening. */
public final class ChangesTest {
    private static final Kit KIT = new Kit();

    public static void main(String[] args) {
        spareByRule();
        spareByPerson();
        spareByThing();
        spareByNothing();
        fairest();
        fairestOfSome();
        asItWas();
        KIT.close();
    }

    private static void spare(String what, SnowHouse x, int sort, int number, int room) {
        KIT.due(what + ": sort", x.spare(0), sort);
        KIT.due(what + ": number", x.spare(1), number);
        KIT.due(what + ": room", x.spare(2), room);
        KIT.due(what + ": no such", x.spare(3), -1);
        KIT.due(what + ": no such", x.spare(-1), -1);
    }

    private static void fairest(String what, SnowHouse x, int sort, int number, int room, int least) {
        KIT.due(what + ": sort", x.fairest(0), sort);
        KIT.due(what + ": number", x.fairest(1), number);
        KIT.due(what + ": room", x.fairest(2), room);
        KIT.due(what + ": least", x.fairest(3), least);
        KIT.due(what + ": no such", x.fairest(4), -1);
        KIT.due(what + ": no such", x.fairest(-1), -1);
    }

    private static void spareByRule() {
        SnowHouse x = Kit.told("room a;room b;who p in a;who q in a;thing k in a;wipe p when not all;take p k when all;"
            + "kill p q k when all;");
        spare("no evening", x, -1, -1, -1);
        x.run(1);
        spare("no deed", x, -1, -1, -1);
        x.run(2);
        spare("without the second rule", x, 0, 1, -1);
    }

    private static String twice(String rules) {
        return rules + rules;
    }

    private static void spareByPerson() {
        SnowHouse x = Kit.told("room hall;room lib;room din;door hall lib;door lib din;who ann in hall;who bob in din;"
            + "thing knife in lib;" + twice("take ann knife when all;go ann lib when not has ann knife;"
            + "go ann din when has ann knife;kill ann bob knife when all;"));
        x.run(4);
        spare("bob begins in the hall", x, 1, 1, 0);
    }

    private static void spareByThing() {
        SnowHouse x = Kit.told("room a;room b;door a b;who p in a;who q in a;thing c in a;thing k in a;"
            + twice("take p k when all;kill p q k when all;go p a when at q a;go p b when at q b;"));
        x.run(3);
        spare("the thing lies in b", x, 2, 1, 1);
    }

    private static void spareByNothing() {
        SnowHouse x = Kit.told("room a;who p in a;who q in a;thing k in a;"
            + twice("take p k when all;kill p q k when all;"));
        KIT.due("run", x.run(2), 1);
        spare("nothing spares", x, -1, -1, -1);
        KIT.due("skip", x.skip(0, true), true);
        x.run(2);
        spare("but with one rule left out", x, 0, 2, -1);
    }

    private static final String PAIRS = "room a;room b;who p in a;who q in #;who r in b;who s in b;thing k in a;"
        + "take p k when all;kill p q k when all;";

    private static void fairest() {
        SnowHouse x = Kit.told(PAIRS.replace('#', 'a'));
        fairest("no evening", x, -1, -1, -1, -1);
        x.run(2);
        fairest("a change that changes nothing", x, 1, 0, 0, 2);
        SnowHouse y = Kit.told(PAIRS.replace('#', 'b'));
        KIT.due("run", y.run(2), 0);
        fairest("of an evening without a deed", y, 1, 1, 0, 2);
        spare("of an evening without a deed", y, -1, -1, -1);
        y.run(1);
        fairest("too short", y, -1, -1, -1, -1);
        SnowHouse z = Kit.told("room a;room b;who p in a;who q in a;thing c in a;thing k in b;"
            + "take p k when all;kill p q k when all;");
        KIT.due("run", z.run(2), 0);
        fairest("by a thing", z, 2, 1, 0, 0);
    }

    private static void fairestOfSome() {
        // with t in a room of its own nobody clears it; in b it is one of three, each cleared by two
        SnowHouse x = Kit.told("room a;room b;room c;who p in a;who q in a;who r in b;who s in b;who t in c;"
            + "thing k in a;take p k when all;kill p q k when all;");
        KIT.due("run", x.run(2), 1);
        KIT.due("not fair as it is", x.fair(1), 0);
        fairest("t begins with the others", x, 1, 4, 1, 2);
        // two deeds are one too many
        SnowHouse y = Kit.told("room a;who p in a;who q in a;who r in a;thing k in a;thing l in a;");
        y.run(3);
        fairest("none", y, -1, -1, -1, -1);
        SnowHouse z = Kit.told("room a;room b;door a b;who p in a;who q in a;who r in b;thing k in a;take p k when all;"
            + "kill p q k when all;go p b when dead q;kill p r k when all;");
        KIT.due("run", z.run(4), 2);
        KIT.due("run", z.run(3), 1);
        KIT.due("run", z.run(4), 2);
        fairest("k lies in b: no deed; all others have two or none", z, -1, -1, -1, -1);
    }

    private static void asItWas() {
        SnowHouse x = Kit.told(PAIRS.replace('#', 'a'));
        x.run(2);
        x.begin(1, 1);
        x.skip(0, true);
        x.put(0, 1);
        spare("the breakfast as it was", x, 0, 0, -1);
        fairest("the breakfast as it was", x, 1, 0, 0, 2);
        KIT.due("run", x.run(2), 0);
        spare("the new one", x, -1, -1, -1);
        fairest("the new one", x, -1, -1, -1, -1);
        x.skip(0, false);
        KIT.due("the evening's stays", x.run(181), -1);
        fairest("the new one", x, -1, -1, -1, -1);
        x.put(0, 0);
        x.run(2);
        fairest("the next", x, 1, 1, 0, 2);
        Kit.text(x, "room a;");
        fairest("no evening any more", x, -1, -1, -1, -1);
        spare("no evening any more", x, -1, -1, -1);
    }
}
