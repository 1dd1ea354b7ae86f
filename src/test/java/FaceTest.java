import java.lang.reflect.Array;
import java.lang.reflect.Constructor;
import java.lang.reflect.Field;
import java.lang.reflect.Method;
import java.lang.reflect.Modifier;
import java.util.IdentityHashMap;
import java.util.Map;
import java.util.TreeSet;

/** The public face, how much room an object takes, and that calls at random never throw. */
public final class FaceTest {
    private static final Kit KIT = new Kit();
    private static final String[] METHODS = {
        "int feed(int,int,int,int,int)", "boolean end(int)", "int text()", "int fault(int)", "int has(int)",
        "int letter(int,int,int)", "boolean begin(int,int)", "boolean put(int,int)", "boolean skip(int,boolean)",
        "void anew()", "int run(int)", "int was(int,int)", "int alive(int,int)", "int where(int,int)",
        "int did(int,int)", "int mood(int,int)", "int deed(int,int)", "int trace(int,int)", "int saw(int,int,int)",
        "int knows(int,int)", "int needed(int,int)", "int span(int,int,boolean)", "int could(int,int,int)",
        "int least(int,boolean)", "int fair(int)", "int claim(int)", "int caught(int,boolean)", "int spare(int)",
        "int fairest(int)"};

    public static void main(String[] args) throws Exception {
        face();
        room();
        wild();
        KIT.close();
    }

    private static void face() throws Exception {
        Class<?> type = SnowHouse.class;
        KIT.due("NONE", SnowHouse.NONE, -1);
        KIT.due("final", Modifier.isFinal(type.getModifiers()), true);
        TreeSet<String> publics = new TreeSet<>();
        TreeSet<String> names = new TreeSet<>();
        for (Method method : type.getDeclaredMethods()) {
            if (Modifier.isPublic(method.getModifiers())) {
                StringBuilder told = new StringBuilder(method.getReturnType() + " " + method.getName() + "(");
                for (Class<?> parameter : method.getParameterTypes()) {
                    told.append(told.charAt(told.length() - 1) == '(' ? "" : ",").append(parameter);
                }
                publics.add(told + ")");
                names.add(method.getName());
            }
        }
        for (Method method : type.getDeclaredMethods()) {
            boolean open = Modifier.isPublic(method.getModifiers());
            KIT.due("hidden or told: " + method, open || Modifier.isPrivate(method.getModifiers())
                || method.isSynthetic(), true);
            KIT.due("no private method of a public one's name: " + method, open || !names.contains(method.getName()), true);
        }
        KIT.due("methods " + publics, publics.equals(new TreeSet<>(java.util.List.of(METHODS))), true);
        for (Field field : type.getDeclaredFields()) {
            KIT.due("hidden: " + field, Modifier.isPrivate(field.getModifiers()), !field.getName().equals("NONE"));
        }
        for (Constructor<?> made : type.getDeclaredConstructors()) {
            KIT.due("constructor", made.getParameterCount(), 0);
        }
        for (Class<?> inner : type.getDeclaredClasses()) {
            KIT.due("static, not public: " + inner, Modifier.isStatic(inner.getModifiers())
                && !Modifier.isPublic(inner.getModifiers()) && !Modifier.isProtected(inner.getModifiers()), true);
            KIT.due("few fields: " + inner, inner.getDeclaredFields().length <= 20, true);
            for (Method method : inner.getDeclaredMethods()) {
                KIT.due("no name of a public one inside: " + method, names.contains(method.getName()), false);
            }
        }
        KIT.due("few classes", type.getDeclaredClasses().length <= 12, true);
    }

    /** Adds to the sums [objects and arrays, fields and elements] what hangs on an object. */
    private static void weigh(Object thing, Map<Object, Object> seen, long[] sums) throws Exception {
        if (thing == null || thing instanceof String || seen.put(thing, thing) != null) {
            return;
        }
        sums[0]++;
        if (thing.getClass().isArray()) {
            sums[1] += Array.getLength(thing);
            for (int i = 0; i < Array.getLength(thing) && !thing.getClass().getComponentType().isPrimitive(); i++) {
                weigh(Array.get(thing, i), seen, sums);
            }
            return;
        }
        for (Field field : thing.getClass().getDeclaredFields()) {
            if (!Modifier.isStatic(field.getModifiers())) {
                sums[1]++;
                field.setAccessible(true);
                if (!field.getType().isPrimitive()) {
                    weigh(field.get(thing), seen, sums);
                }
            }
        }
    }

    private static long[] weight(SnowHouse x) throws Exception {
        long[] sums = new long[2];
        weigh(x, new IdentityHashMap<>(), sums);
        return sums;
    }

    /** The room of a run takes 512 objects, if every call were a new one. */
    private static void room() throws Exception {
        SnowHouse x = new SnowHouse();
        long[] made = weight(x);
        System.out.println("an object is " + made[0] + " objects and arrays, " + made[1] + " fields and elements");
        KIT.due("objects of 512 new ones", made[0] * 512 <= 600000, true);
        KIT.due("elements of 512 new ones", made[1] * 512 <= 7300000, true);
        java.lang.management.ThreadMXBean bean = java.lang.management.ManagementFactory.getThreadMXBean();
        long thread = Thread.currentThread().getId();
        if (!(bean instanceof com.sun.management.ThreadMXBean)) {
            return;
        }
        com.sun.management.ThreadMXBean counter = (com.sun.management.ThreadMXBean) bean;
        int[] text = Kit.numbers(Kit.bytes("room a;room b;door a b;who p in a;who q in a;who r in b;thing k in a;"
            + "take p k when all;kill p q k when minute>1+max(1,mood p);says p b 0 9;"));
        long least = Long.MAX_VALUE;
        for (int i = 0; i < 20; i++) {
            long before = counter.getThreadAllocatedBytes(thread);
            busy(x, text);
            least = Math.min(least, counter.getThreadAllocatedBytes(thread) - before);
        }
        KIT.due("the killer's deed", x.has(7), 1);
        KIT.due("bytes that calls make", least < 1000, true);
    }

    private static void busy(SnowHouse x, int[] text) {
        for (int i = 0; i < text.length; i += 5) {
            x.feed(text[i], text[i + 1], text[i + 2], text[i + 3], text[i + 4]);
        }
        x.text();
        x.begin(0, 0);
        x.put(0, 0);
        x.skip(0, false);
        for (int i = 0; i < 10; i++) {
            x.run(180);
            x.needed(0, 0);
            x.spare(0);
            x.fairest(0);
            x.least(1, true);
            x.could(1, 5, 3);
            x.span(1, 5, true);
            x.claim(0);
            x.caught(0, true);
            x.trace(0, 0);
            x.saw(0, 1, 0);
            x.letter(0, 0, 0);
        }
        x.anew();
    }

    /** Calls with any arguments in any state; that none throws is all that is asked here. */
    private static void wild() throws Exception {
        java.util.Random random = new java.util.Random(7);
        int[] odd = {0, 1, 2, 3, 4, 5, 7, 8, 9, 15, 30, 31, 32, 63, 100, 179, 180, 181, 255, 1200, -1, -2,
            Integer.MIN_VALUE, Integer.MAX_VALUE};
        Method[] methods = SnowHouse.class.getDeclaredMethods();
        java.util.Arrays.sort(methods, java.util.Comparator.comparing(Method::toString));
        for (int i = 0; i < 300; i++) {
            SnowHouse x = new SnowHouse();
            byte[] text = Kit.bytes(new Texts(random).whole());
            Kit.feed(x, i % 3 == 0 ? Texts.spoiled(text, random) : text);
            for (int k = 0; k < 511; k++) {
                Method method = methods[random.nextInt(methods.length)];
                if (!Modifier.isPublic(method.getModifiers())) {
                    continue;
                }
                Object[] given = new Object[method.getParameterCount()];
                for (int a = 0; a < given.length; a++) {
                    given[a] = method.getParameterTypes()[a] == boolean.class ? (Object) random.nextBoolean()
                        : (Object) (random.nextInt(5) == 0 ? odd[random.nextInt(odd.length)] : random.nextInt(6));
                }
                if (method.getName().equals("text") && k > 3 || method.getName().equals("feed") && k < 3) {
                    continue;
                }
                method.invoke(x, given);
            }
        }
    }
}
