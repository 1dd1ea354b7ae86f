import java.util.Random;

/**
 * Holds the program against Model, the document told slowly, on random texts, faults and
 * evenings. The seeds are fixed; "java ModelTest FROM TO" goes through others.
 */
public final class ModelTest {
    private static final Kit KIT = new Kit();
    private static String about = "";
    private static int deeds;
    private static int fairs;
    private static int spares;
    private static int faults;

    private static void due(String call, long got, long want) {
        KIT.due(about + ": " + call, got, want);
    }

    public static void main(String[] args) {
        int from = args.length > 0 ? Integer.parseInt(args[0]) : 0;
        int to = args.length > 1 ? Integer.parseInt(args[1]) : 400;
        for (int seed = from; seed < to; seed++) {
            one(seed);
        }
        System.out.println(deeds + " evenings with deeds, " + spares + " spared, " + fairs
            + " with a fairest, " + faults + " faults");
        KIT.close();
    }

    private static boolean tell(SnowHouse x, Model model, byte[] text) {
        int[] n = Kit.numbers(text);
        for (int i = 0; i < n.length; i += 5) {
            due("feed", x.feed(n[i], n[i + 1], n[i + 2], n[i + 3], n[i + 4]),
                model.feed(n[i], n[i + 1], n[i + 2], n[i + 3], n[i + 4]));
        }
        KIT.due("end", x.end(text.length), model.end(text.length));
        int want = model.text();
        String told = new String(text, java.nio.charset.StandardCharsets.ISO_8859_1);
        due("text of " + (want < 0 ? told : ""), x.text(), want);
        for (int what = -1; what < 3; what++) {
            due("fault(" + what + ") of " + (want < 0 ? told : ""), x.fault(what), model.fault(what));
        }
        return want >= 0;
    }

    private static void one(int seed) {
        Random random = new Random(seed);
        SnowHouse x = new SnowHouse();
        Model model = new Model();
        about = "seed " + seed;
        for (int round = 0; round < 2; round++) {
            byte[] text = Kit.bytes(new Texts(random).whole());
            tell(x, model, text);
            names(x, model);
            for (int i = 0; i < 8; i++) {
                faults += tell(x, model, Texts.spoiled(text, random)) ? 0 : 1;
            }
            tell(x, model, text);
            for (int evening = 0; evening < 4; evening++) {
                about = "seed " + seed + " round " + round + " evening " + evening;
                change(x, model, random);
                int n = random.nextInt(30) == 0 ? 180 : random.nextInt(20) == 0 ? random.nextInt(3) - 1
                    : 1 + random.nextInt(25);
                due("run(" + n + ")", x.run(n), model.run(n));
                if (random.nextInt(3) == 0) {
                    change(x, model, random);
                }
                all(x, model, random);
            }
        }
    }

    private static void names(SnowHouse x, Model model) {
        for (int kind = -1; kind < 4; kind++) {
            for (int which = -1; which < 9; which++) {
                for (int k = -1; k < 8; k++) {
                    due("letter", x.letter(kind, which, k), model.letter(kind, which, k));
                }
            }
        }
    }

    private static void change(SnowHouse x, Model model, Random random) {
        if (random.nextInt(3) == 0) {
            x.anew();
            model.anew();
        }
        for (int i = random.nextInt(4); i > 0; i--) {
            int a = random.nextInt(random.nextInt(4) == 0 ? 32 : 5) - 1;
            int b = random.nextInt(5) - 1;
            boolean out = random.nextBoolean();
            switch (random.nextInt(3)) {
                case 0:
                    KIT.due(about + ": begin", x.begin(a, b), model.begin(a, b));
                    break;
                case 1:
                    KIT.due(about + ": put", x.put(a, b), model.put(a, b));
                    break;
                default:
                    KIT.due(about + ": skip", x.skip(a, out), model.skip(a, out));
                    break;
            }
        }
    }

    private static void all(SnowHouse x, Model model, Random random) {
        for (int what = -1; what < 10; what++) {
            due("has(" + what + ")", x.has(what), model.has(what));
        }
        deeds += x.has(7) > 0 ? 1 : 0;
        int n = Math.max(0, x.has(6));
        for (int p = -1; p < 9; p++) {
            for (int m = -1; m <= n; m++) {
                due("was", x.was(p, m), model.was(p, m));
                due("alive", x.alive(p, m), model.alive(p, m));
                due("where", x.where(p, m), model.where(p, m));
                due("did", x.did(p, m), model.did(p, m));
                due("mood", x.mood(p, m), model.mood(p, m));
                for (int q = -1; q < 9; q++) {
                    due("saw", x.saw(p, q, m), model.saw(p, q, m));
                }
            }
            for (int q = -1; q < 9; q++) {
                due("knows", x.knows(p, q), model.knows(p, q));
            }
        }
        for (int k = -1; k <= x.has(8); k++) {
            for (int what = -1; what < 7; what++) {
                due("deed", x.deed(k, what), model.deed(k, what));
                due("trace", x.trace(k, what), model.trace(k, what));
            }
        }
        for (int k = -1; k <= x.has(7); k++) {
            for (int rule = -1; rule <= x.has(4); rule++) {
                due("needed(" + rule + ", " + k + ")", x.needed(rule, k), model.needed(rule, k));
            }
        }
        found(x, model, random);
        for (int k = -1; k <= x.has(5); k++) {
            due("claim", x.claim(k), model.claim(k));
            due("caught", x.caught(k, true), model.caught(k, true));
            due("caught", x.caught(k, false), model.caught(k, false));
        }
        for (int what = -1; what < 4; what++) {
            due("spare(" + what + ")", x.spare(what), model.spare(what));
        }
        spares += x.spare(0) >= 0 ? 1 : 0;
        int[] fairest = n > 60 ? null : model.fairestAll();
        for (int what = -1; what < 5 && n <= 60; what++) {
            due("fairest(" + what + ")", x.fairest(what),
                fairest == null || what < 0 || what > 3 ? -1 : fairest[what]);
        }
        fairs += fairest == null ? 0 : 1;
    }

    private static void found(SnowHouse x, Model model, Random random) {
        for (int v = 8; v >= 0; v--) {
            due("fair", x.fair(v), model.fair(v));
        }
        for (int v = -1; v < 9; v++) {
            for (int i = 0; i < 12; i++) {
                int set = i == 0 ? -1 : random.nextInt(i < 6 ? 32 : 260);
                int rooms = i == 1 ? -1 : i < 4 ? (1 << x.has(0)) - 1 : random.nextInt(i < 8 ? 32 : 260);
                due("span", x.span(v, set, false), model.span(v, set, false));
                due("span", x.span(v, set, true), model.span(v, set, true));
                due("could", x.could(v, set, rooms), model.could(v, set, rooms));
            }
            due("least", x.least(v, false), model.least(v, false));
            due("least", x.least(v, true), model.least(v, true));
            due("fair", x.fair(v), model.fair(v));
        }
    }
}
