/** The example of README.md: an evening with one murder in it, and what can be asked of it. */
public final class Supper {
    private static final String TEXT = "room hall; room din; room attic; door hall din; door hall attic;\n"
        + "who ann in hall; who bob in din; who cat in attic; who dan in hall; thing knife in hall;\n"
        + "take ann knife when all; go ann din when has ann knife; kill ann bob knife when near ann bob;\n"
        + "go cat hall when minute > 3; go cat din when minute < 4; says ann hall 0 179;\n";

    public static void main(String[] args) {
        SnowHouse x = new SnowHouse();
        System.out.println("statements: " + tell(x, TEXT));
        System.out.println("deeds in 6 minutes: " + x.run(6));
        System.out.println("killer: " + name(x, x.deed(0, 0)) + ", victim: " + name(x, x.deed(0, 1))
            + ", minute: " + x.deed(0, 3));
        System.out.println("could have done it, if none is asked: " + x.could(1, 0, 2));
        System.out.println("if cat is asked: " + x.could(1, 4, 2) + ", from minute: " + x.span(1, 4, false));
        System.out.println("fair: " + x.fair(1) + ", least: " + x.least(1, false) + ", the set: " + x.least(1, true));
        System.out.println("ann's claim: " + x.claim(0) + ", caught by: " + name(x, x.caught(0, true)));
        System.out.println("without rule " + x.spare(1) + " all are spared");
        x.skip(x.spare(1), true);
        System.out.println("deeds then: " + x.run(6));
        System.out.println("statements of a faulty text: " + tell(x, "room hall; room hall;")
            + ", fault: " + x.fault(0) + ", at: " + x.fault(1));
    }

    /** Feeds a text, four bytes a number and the highest first, and has it read. */
    private static int tell(SnowHouse x, String text) {
        int[] five = new int[5];
        for (int i = 0; i < text.length(); i += 20) {
            for (int k = 0; k < 20; k++) {
                int letter = i + k < text.length() ? text.charAt(i + k) : ' ';
                five[k / 4] = five[k / 4] << 8 | letter;
            }
            x.feed(five[0], five[1], five[2], five[3], five[4]);
        }
        x.end(text.length());
        return x.text();
    }

    private static String name(SnowHouse x, int person) {
        StringBuilder name = new StringBuilder();
        for (int k = 0; x.letter(1, person, k) != SnowHouse.NONE; k++) {
            name.append((char) x.letter(1, person, k));
        }
        return name.toString();
    }
}
