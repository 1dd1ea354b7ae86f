import java.util.ArrayList;
import java.util.List;
import java.util.Random;

/** Random texts that are whole and in which people meet, and texts spoiled in a place. */
final class Texts {
    private static final String SIGNS = "abz059 \n;(),[]<>=+-*/%A.\t{\u00e9";
    private final Random random;
    private final StringBuilder out = new StringBuilder();
    private final List<String> rooms = new ArrayList<>();
    private final List<String> persons = new ArrayList<>();
    private final List<String> things = new ArrayList<>();
    private int open;

    Texts(Random random) {
        this.random = random;
    }

    private boolean chance(int percent) {
        return random.nextInt(100) < percent;
    }

    private String one(List<String> of) {
        return of.get(random.nextInt(of.size()));
    }

    private String gap() {
        return chance(4) ? "\n" : chance(4) ? "  " : " ";
    }

    private String name(String first, int i) {
        return first + (char) ('a' + i) + (chance(30) ? "xyzw".substring(0, random.nextInt(5)) : "");
    }

    String whole() {
        int r = 1 + random.nextInt(chance(70) ? 4 : 8);
        for (int i = 0; i < r; i++) {
            rooms.add(name("r", i));
            out.append("room ").append(rooms.get(i)).append(";");
        }
        doors(r);
        int p = chance(3) ? random.nextInt(2) : 2 + random.nextInt(chance(70) ? 4 : 7);
        for (int i = 0; i < p; i++) {
            persons.add(name("p", i));
            out.append("who ").append(persons.get(i)).append(" in ").append(one(rooms)).append(";");
        }
        int t = chance(5) ? 0 : 1 + random.nextInt(chance(80) ? 3 : 8);
        for (int i = 0; i < t; i++) {
            things.add(name("t", i));
            out.append("thing ").append(things.get(i)).append(" in ").append(one(rooms)).append(";\n");
        }
        int rules = p == 0 ? 0 : random.nextInt(31);
        for (int i = random.nextInt(3); i > 0 && p > 1 && t > 0 && rules < 27; i--) {
            plot();
            rules = Math.max(0, rules - 4);
        }
        for (int i = 0; i < rules && out.length() < 1000; i++) {
            rule();
        }
        int claims = p == 0 ? 0 : random.nextInt(6);
        for (int i = 0; i < claims && out.length() < 1160; i++) {
            int from = random.nextInt(chance(70) ? 10 : 180);
            int to = Math.min(179, from + random.nextInt(chance(50) ? 5 : 180));
            out.append("says ").append(one(persons)).append(gap()).append(one(rooms)).append(" ")
                .append(from).append(gap()).append(to).append(";");
        }
        return out.length() > 1200 ? "" : out.toString();
    }

    private void doors(int r) {
        List<String> pairs = new ArrayList<>();
        for (int a = 0; a < r; a++) {
            for (int b = a + 1; b < r; b++) {
                pairs.add(chance(50) ? rooms.get(a) + " " + rooms.get(b) : rooms.get(b) + " " + rooms.get(a));
            }
        }
        java.util.Collections.shuffle(pairs, random);
        int doors = Math.min(pairs.size(), random.nextInt(chance(50) ? 17 : 1 + 2 * r));
        for (int i = 0; i < Math.min(16, doors); i++) {
            out.append("door ").append(pairs.get(i)).append(";");
        }
    }

    /** Rules by which one is out for a thing and for another one's life. */
    private void plot() {
        String who = one(persons);
        String victim = one(persons);
        String thing = one(things);
        if (who.equals(victim)) {
            return;
        }
        out.append("kill ").append(who).append(" ").append(victim).append(" ").append(thing)
            .append(chance(60) ? " when all;" : " when minute>" + random.nextInt(9) + ";");
        out.append("take ").append(who).append(" ").append(thing).append(" when all;");
        for (int i = 0; i < 2; i++) {
            out.append("go ").append(who).append(" ").append(one(rooms)).append(" when minute%")
                .append(2 + random.nextInt(7)).append(">").append(random.nextInt(4)).append(";");
        }
    }

    private void rule() {
        String who = one(persons);
        int sort = random.nextInt(20);
        int before = out.length();
        if (sort < 6) {
            out.append("go ").append(who).append(gap()).append(one(rooms));
        } else if (sort < 9 && !things.isEmpty()) {
            out.append("take ").append(who).append(gap()).append(one(things));
        } else if (sort < 11 && !things.isEmpty()) {
            out.append("lay ").append(who).append(gap()).append(one(things));
        } else if (sort < 12) {
            out.append("wipe ").append(who);
        } else if (sort < 15 || persons.size() < 2 || things.isEmpty()) {
            out.append("feel ").append(who).append(gap());
            sum(2);
        } else {
            String victim = one(persons);
            while (victim.equals(who)) {
                victim = one(persons);
            }
            out.append("kill ").append(who).append(gap()).append(victim).append(gap()).append(one(things));
        }
        out.append(" when ");
        test(2);
        out.append(";");
        if (out.length() > 1190) {
            out.setLength(before);
        }
    }

    private void test(int deep) {
        int parts = chance(70) ? 1 : 2 + random.nextInt(2);
        for (int i = 0; i < parts; i++) {
            out.append(i == 0 ? "" : chance(50) ? " or " : " and ");
            fact(deep);
        }
    }

    private void fact(int deep) {
        while (chance(15)) {
            out.append("not ");
        }
        int sort = random.nextInt(14);
        if (deep > 0 && open < 8 && sort == 0) {
            out.append("[");
            open++;
            test(deep - 1);
            open--;
            out.append("]");
        } else if (sort < 3) {
            out.append("all");
        } else if (sort < 4) {
            out.append("at ").append(one(persons)).append(gap()).append(one(rooms));
        } else if (sort < 5 && !things.isEmpty()) {
            out.append("has ").append(one(persons)).append(gap()).append(one(things));
        } else if (sort < 7 && persons.size() > 1) {
            String p = one(persons);
            String q = one(persons);
            while (q.equals(p)) {
                q = one(persons);
            }
            out.append(chance(60) ? "near " : "knows ").append(p).append(gap()).append(q);
        } else if (sort < 8) {
            out.append(chance(60) ? "alone " : "dead ").append(one(persons));
        } else {
            sum(deep);
            out.append("<>=".charAt(random.nextInt(3)));
            sum(deep);
        }
    }

    private void sum(int deep) {
        int parts = chance(60) ? 1 : 2 + random.nextInt(2);
        for (int i = 0; i < parts; i++) {
            out.append(i == 0 ? "" : "" + "+-*/%-".charAt(random.nextInt(6)));
            part(deep);
        }
    }

    private void part(int deep) {
        int sort = random.nextInt(12);
        if (sort < 4) {
            out.append(chance(90) ? random.nextInt(10) : random.nextInt(10000));
        } else if (sort < 7) {
            out.append("minute");
        } else if (sort < 10 || deep == 0 || open >= 8) {
            out.append("mood ").append(one(persons));
        } else {
            String pair = sort < 11 ? "" : chance(50) ? "min" : "max ";
            out.append(pair).append("(");
            open++;
            sum(deep - 1);
            if (!pair.isEmpty()) {
                out.append(" , ");
                sum(deep - 1);
            }
            open--;
            out.append(")");
        }
    }

    /** A text with some bytes changed, taken away, put in or said twice. */
    static byte[] spoiled(byte[] text, Random random) {
        byte[] now = text.clone();
        int times = 1 + random.nextInt(2);
        for (int i = 0; i < times && now.length > 0; i++) {
            int at = random.nextInt(now.length);
            int length = random.nextInt(random.nextInt(4) == 0 ? 40 : 4);
            int to = Math.min(now.length, at + length);
            byte[] put;
            switch (random.nextInt(5)) {
                case 0:
                    put = new byte[] {(byte) SIGNS.charAt(random.nextInt(SIGNS.length()))};
                    to = random.nextBoolean() ? at : Math.min(now.length, at + 1);
                    break;
                case 1:
                    put = new byte[0];
                    break;
                case 2: {
                    int from = random.nextInt(now.length);
                    put = java.util.Arrays.copyOfRange(now, from, Math.min(now.length, from + length));
                    break;
                }
                case 3: {
                    String[] words = {"room", "door", "who", "in", "and ", " or ", "not ", "((", "((((((((((",
                        "[[[[[[[[[", "abcdefg", "12345", "min(", "mood", "179", "180", " all", "=", "\u0001", "\u0002"};
                    put = Kit.bytes(words[random.nextInt(words.length)]);
                    to = random.nextBoolean() ? at : to;
                    break;
                }
                default:
                    put = new byte[] {(byte) random.nextInt(256)};
                    to = Math.min(now.length, at + 1);
                    break;
            }
            byte[] next = new byte[now.length - (to - at) + put.length];
            System.arraycopy(now, 0, next, 0, at);
            System.arraycopy(put, 0, next, at, put.length);
            System.arraycopy(now, to, next, at + put.length, now.length - to);
            now = next;
        }
        return now.length > 1200 ? java.util.Arrays.copyOf(now, 1200) : now;
    }
}
