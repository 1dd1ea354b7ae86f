/** Promises 1 to 3: a new object, and the tape. A case is a method, named by its promise and itself. */
public final class Promise01To03Test {
    private static final Kit KIT = new Kit();
    private static final int BLANKS = 0x20202020;

    public static void main(String[] args) throws Exception {
        KIT.cases(Promise01To03Test.class);
        KIT.close();
    }

    private static void row(String call, java.util.function.IntUnaryOperator got, int... want) {
        KIT.row(call, got, want);
    }

    // ---- promise 1: a new object

    static void promise01_constant_noneIsMinusOne() {
        KIT.due("NONE", SnowHouse.NONE, -1);
    }

    static void promise01_new_noRoomsNobodyNothing() {
        SnowHouse x = new SnowHouse();
        row("has", x::has, 0, 0, 0, 0, 0, 0);
        for (int kind = 0; kind < 3; kind++) {
            KIT.due("letter", x.letter(kind, 0, 0), -1);
        }
    }

    static void promise01_new_noEvening() {
        SnowHouse x = new SnowHouse();
        row("has", what -> x.has(6 + what), 0, 0, 0);
        nothingOfAnEvening(x);
    }

    private static void nothingOfAnEvening(SnowHouse x) {
        KIT.due("was", x.was(0, 0), -1);
        KIT.due("alive", x.alive(0, 0), -1);
        KIT.due("where", x.where(0, 0), -1);
        KIT.due("did", x.did(0, 0), -1);
        KIT.due("mood", x.mood(0, 0), -2000000000);
        KIT.due("deed", x.deed(0, 0), -1);
        KIT.due("trace", x.trace(0, 0), -1);
        KIT.due("saw", x.saw(0, 1, 0), -1);
        KIT.due("saw itself", x.saw(0, 0, 0), -1);
        KIT.due("knows", x.knows(0, 1), -1);
        KIT.due("needed", x.needed(0, 0), -1);
        KIT.due("span", x.span(0, 0, false), -1);
        KIT.due("span", x.span(0, 0, true), -1);
        KIT.due("could", x.could(0, 0, 1), -1);
        KIT.due("least", x.least(0, false), -1);
        KIT.due("least", x.least(0, true), -1);
        KIT.due("fair", x.fair(0), -1);
        KIT.due("claim", x.claim(0), -1);
        KIT.due("caught", x.caught(0, true), -1);
        KIT.due("caught", x.caught(0, false), -1);
        row("spare", x::spare, -1, -1, -1);
        row("fairest", x::fairest, -1, -1, -1, -1);
    }

    static void promise01_toldButNotRun_noEveningEither() {
        SnowHouse x = Kit.told("room a;who p in a;who q in a;thing k in a;wipe p when all;says p a 0 1;");
        row("has", what -> x.has(6 + what), 0, 0, 0);
        nothingOfAnEvening(x);
    }

    static void promise01_new_noChangeCanBe() {
        SnowHouse x = new SnowHouse();
        KIT.due("begin", x.begin(0, 0), false);
        KIT.due("put", x.put(0, 0), false);
        KIT.due("skip", x.skip(0, true), false);
        KIT.due("skip", x.skip(0, false), false);
        x.anew();
        KIT.due("begin", x.begin(0, 0), false);
    }

    static void promise01_twoNewOnes_shareNothing() {
        SnowHouse x = new SnowHouse();
        SnowHouse y = new SnowHouse();
        Kit.feed(x, Kit.bytes("room a;who p in a;"));
        KIT.due("y's tape", y.end(1), false);
        KIT.due("x's text", x.text(), 2);
        KIT.due("y's rooms", y.has(0), 0);
        x.run(3);
        KIT.due("y's evening", y.has(6), 0);
        Kit.text(y, "room^");
        KIT.due("x's fault", x.fault(0), 0);
        KIT.due("y's fault", y.fault(0), 1);
    }

    static void promise01_call512_stillAnswers() {
        SnowHouse x = new SnowHouse();
        int[] n = Kit.numbers(Kit.bytes("room a;who p in a;who q in a;thing k in a;take p k when all;"
            + "kill p q k when all;"));
        int calls = 0;
        for (int i = 0; i < n.length; i += 5) {
            x.feed(n[i], n[i + 1], n[i + 2], n[i + 3], n[i + 4]);
            calls++;
        }
        KIT.due("text", x.text(), 6);
        for (calls++; calls < 510; calls++) {
            KIT.due("call " + (calls + 1), x.run(180 - calls % 3), 1);
        }
        KIT.due("call 511", x.run(2), 1);
        KIT.due("call 512", x.deed(0, 3), 1);
    }

    // ---- promise 2: feed

    static void promise02_feed_twentyBytesACall() {
        SnowHouse x = new SnowHouse();
        KIT.due("first", x.feed(0, 0, 0, 0, 0), 20);
        KIT.due("second", x.feed(-1, -1, -1, -1, -1), 40);
        KIT.due("third", x.feed(Integer.MIN_VALUE, Integer.MAX_VALUE, 1, 2, 3), 60);
    }

    static void promise02_feed_highestByteOfEachNumberFirst() {
        SnowHouse x = new SnowHouse();
        x.feed(0x726f6f6d, 0x20616263, 0x6465663b, 0x726f6f6d, 0x2067683b);
        KIT.due("room abcdef;room gh;", x.text(), 2);
        row("letters", k -> x.letter(0, 0, k), 'a', 'b', 'c', 'd', 'e', 'f', -1);
        row("letters", k -> x.letter(0, 1, k), 'g', 'h', -1);
    }

    static void promise02_feed_comesBehindWhatIsThere() {
        SnowHouse x = new SnowHouse();
        x.feed(0x726f6f6d, 0x2061623b, BLANKS, BLANKS, BLANKS);
        x.end(7);
        KIT.due("feed", x.feed(0x63643b20, BLANKS, BLANKS, BLANKS, BLANKS), 27);
        KIT.due("room abcd;", x.text(), 1);
        row("letters", k -> x.letter(0, 0, k), 'a', 'b', 'c', 'd', -1);
    }

    static void promise02_feed_byteAbove127_isOneByteAlone() {
        SnowHouse x = new SnowHouse();
        x.feed(0x726f6f6d, 0x20613bff, 0, 0, 0);
        x.end(7);
        KIT.due("ahead of it", x.text(), 1);
        x.feed(0x20ff2020, BLANKS, BLANKS, BLANKS, BLANKS);
        KIT.due("with it", x.text(), -1);
        KIT.due("its place", x.fault(1), 1);
        x.feed(0xff202020, BLANKS, BLANKS, BLANKS, BLANKS);
        KIT.due("at the number's top", x.text(), -1);
        KIT.due("its place", x.fault(1), 0);
        x.feed(BLANKS, BLANKS, BLANKS, BLANKS, 0x20202080);
        KIT.due("at the last byte", x.text(), -1);
        KIT.due("its place", x.fault(1), 19);
    }

    /** A tape of so many feeds, the first of which tells a room. */
    private static SnowHouse taped(int feeds) {
        SnowHouse x = new SnowHouse();
        x.feed(0x726f6f6d, 0x20613b20, BLANKS, BLANKS, BLANKS);
        for (int i = 2; i <= feeds; i++) {
            KIT.due("feed " + i, x.feed(BLANKS, BLANKS, BLANKS, BLANKS, BLANKS), 20 * i);
        }
        return x;
    }

    static void promise02_feed_1200BytesFit() {
        SnowHouse x = taped(60);
        KIT.due("all there", x.end(1200), true);
        KIT.due("text", x.text(), 1);
    }

    static void promise02_feed_oneFeedMoreThan1200_isRefused() {
        SnowHouse x = taped(60);
        KIT.due("feed", x.feed(BLANKS, BLANKS, BLANKS, BLANKS, BLANKS), -1);
        KIT.due("once more", x.feed(BLANKS, BLANKS, BLANKS, BLANKS, BLANKS), -1);
    }

    static void promise02_feed_refused_doesNothing() {
        SnowHouse x = taped(60);
        x.feed(0x726f6f6d, 0x20623b20, 0, 0, 0);
        KIT.due("no more than there were", x.end(1201), false);
        KIT.due("as many as there were", x.end(1200), true);
        KIT.due("the text as it was", x.text(), 1);
        KIT.due("its room", x.letter(0, 0, 0), 'a');
    }

    static void promise02_feed_1181BytesThere_isRefusedAndDoesNothing() {
        SnowHouse x = taped(60);
        x.end(1181);
        KIT.due("feed", x.feed(0, 0, 0, 0, 0), -1);
        KIT.due("nothing came", x.end(1182), false);
        KIT.due("nothing went", x.end(1181), true);
        KIT.due("text", x.text(), 1);
    }

    static void promise02_feed_1180BytesThere_fitsToTheLastByte() {
        SnowHouse x = taped(60);
        x.end(1180);
        KIT.due("feed", x.feed(BLANKS, BLANKS, BLANKS, BLANKS, 0x20202021), 1200);
        KIT.due("text", x.text(), -1);
        KIT.due("the last byte is read", x.fault(1), 1199);
    }

    static void promise02_feed_afterText_beginsAnew() {
        SnowHouse x = taped(60);
        x.text();
        KIT.due("feed", x.feed(BLANKS, BLANKS, BLANKS, BLANKS, BLANKS), 20);
        KIT.due("text", x.text(), 0);
    }

    // ---- promise 3: end

    static void promise03_end_emptyTape_hasNoBytes() {
        SnowHouse x = new SnowHouse();
        KIT.due("end(0)", x.end(0), true);
        KIT.due("end(1)", x.end(1), false);
    }

    static void promise03_end_asManyAsThere_isTrueAndCutsNothing() {
        SnowHouse x = taped(2);
        KIT.due("end(40)", x.end(40), true);
        KIT.due("end(40)", x.end(40), true);
        KIT.due("feed", x.feed(BLANKS, BLANKS, BLANKS, BLANKS, BLANKS), 60);
    }

    static void promise03_end_oneTooMany_isFalseAndDoesNothing() {
        SnowHouse x = taped(2);
        KIT.due("end(41)", x.end(41), false);
        KIT.due("end", x.end(Integer.MAX_VALUE), false);
        KIT.due("feed", x.feed(BLANKS, BLANKS, BLANKS, BLANKS, BLANKS), 60);
        KIT.due("text", x.text(), 1);
    }

    static void promise03_end_below0_isFalseAndDoesNothing() {
        SnowHouse x = taped(2);
        KIT.due("end(-1)", x.end(-1), false);
        KIT.due("end", x.end(Integer.MIN_VALUE), false);
        KIT.due("feed", x.feed(BLANKS, BLANKS, BLANKS, BLANKS, BLANKS), 60);
        KIT.due("text", x.text(), 1);
    }

    static void promise03_end_theFirstBytesAloneStay() {
        SnowHouse x = new SnowHouse();
        x.feed(0x726f6f6d, 0x20616263, 0x6465663b, 0x726f6f6d, 0x2067683b);
        KIT.due("end(12)", x.end(12), true);
        KIT.due("the rest is gone", x.end(13), false);
        KIT.due("text", x.text(), 1);
        KIT.due("the first room", x.letter(0, 0, 0), 'a');
    }

    static void promise03_end_cutWithinAWord_isReadSo() {
        SnowHouse x = new SnowHouse();
        x.feed(0x726f6f6d, 0x20616263, 0x6465663b, 0x726f6f6d, 0x2067683b);
        x.end(8);
        KIT.due("room abc", x.text(), -1);
        KIT.due("ends too soon", x.fault(1), 8);
    }

    static void promise03_end_0_emptiesTheTape() {
        SnowHouse x = taped(60);
        KIT.due("end(0)", x.end(0), true);
        KIT.due("end(1)", x.end(1), false);
        KIT.due("text", x.text(), 0);
    }

    static void promise03_end_afterText_theTapeHasNone() {
        SnowHouse x = taped(1);
        x.text();
        KIT.due("end(1)", x.end(1), false);
        KIT.due("end(0)", x.end(0), true);
    }
}
