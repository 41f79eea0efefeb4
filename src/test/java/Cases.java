import java.nio.file.Path;

/** What the tests of the document's sentences share: the sentence that a case goes by, and landscapes to begin with. */
final class Cases {
    private static final Document DOCUMENT = new Document(Path.of("../shared/DOC.md"));
    private static Checks checks = new Checks("");
    private static int promise = Document.TERMS;
    private static String sentence = "";

    private Cases() {
    }

    static void begin(String test) {
        checks = new Checks(test);
    }

    /** A case begins with the sentences of the document that it would tell the breaking of; promise 0 is "Terms". */
    static void quote(int section, String... sentences) {
        promise = section;
        sentence = String.join(" ", sentences);
        for (String words : sentences) {
            due("DOC.md has the sentence", true, DOCUMENT.quote(section, words));
        }
    }

    static void due(String call, Object want, Object got) {
        checks.due(promise, "(" + sentence + ") " + call, want, got);
    }

    static void thrown(String call, Class<?> want, Checks.Call made) {
        checks.thrown(promise, "(" + sentence + ") " + call, want, made);
    }

    static void finishBoundaries() {
        checks.due(Document.TERMS, "sentences that name a boundary case, and that no test goes by", "[]",
                DOCUMENT.unquotedBoundaries().toString());
        checks.finish();
    }

    static void finishOthers() {
        checks.due(Document.TERMS, "sentences of a promise that name no boundary case, and that no test goes by", "[]",
                DOCUMENT.unquotedOthers().toString());
        checks.finish();
    }

    static IceBells lakes(int... depths) {
        IceBells x = new IceBells();
        for (int depth : depths) {
            x.addLake(depth);
        }
        return x;
    }

    static int[] layer(int thickness, int temperature) {
        return new int[] {thickness, temperature};
    }

    /** One lake, 400 cm deep, with the layers from the top, under air of this temperature. */
    static IceBells ice(int air, int[]... layers) {
        IceBells x = lakes(400);
        x.setAir(air);
        for (int[] layer : layers) {
            x.freeze(0, layer[0], layer[1]);
        }
        return x;
    }

    private interface OfNumber {
        Object answer(int number);
    }

    /** The answers for the numbers from 0, with a blank between two. */
    private static String row(int count, OfNumber asked) {
        StringBuilder told = new StringBuilder();
        for (int i = 0; i < count; i++) {
            told.append(i == 0 ? "" : " ").append(asked.answer(i));
        }
        return told.toString();
    }

    /** The strains of the layers of the first lake, from the top. */
    static String strains(IceBells x) {
        return row(x.layerCount(0), i -> x.strain(0, i));
    }

    static String temperatures(IceBells x) {
        return row(x.layerCount(0), i -> x.temperature(0, i));
    }

    static String thicknesses(IceBells x) {
        return row(x.layerCount(0), i -> x.thickness(0, i));
    }

    /** The recorded peals, the latest one first: kind, lake, pitch and hour of each. */
    static String peals(IceBells x) {
        return row(x.pealCount(),
                i -> x.pealKind(i) + "" + x.pealLake(i) + ":" + x.pealPitch(i) + "@" + x.pealHour(i));
    }

    static String windows(IceBells x) {
        return row(x.windowCount(), i -> x.windowFirst(i) + "-" + x.windowLast(i));
    }

    private static String lake(IceBells x, int lake) {
        String layers = row(x.layerCount(lake),
                i -> x.thickness(lake, i) + "/" + x.temperature(lake, i) + "/" + x.strain(lake, i));
        return "lake " + x.depth(lake) + " " + x.cracksOf(lake) + " " + layers;
    }

    /** All that changes can change. */
    static String landscape(IceBells x) {
        return "air " + x.air() + ", hour " + x.hour() + ", frozen " + x.frozenTotal() + ", thawed " + x.thawedTotal()
                + ", cracks " + x.crackTotal() + ", windows " + windows(x) + ", peals " + peals(x) + ", "
                + row(x.lakeCount(), i -> lake(x, i));
    }
}
