/** Promises 27 and 28: figures. */
public final class FiguresTest {
    private static final String INDEX = "throws.IndexOutOfBoundsException";
    private static final String ARITHMETIC = "throws.ArithmeticException";

    private static final Checks CHECKS = new Checks();

    public static void main(String[] args) {
        theShareOfAllBytes();
        aFileShownTwiceCountsOnce();
        noBytesHaveNoShare();
        meansOfLayers();
        noFilesHaveNoMean();
        CHECKS.end();
    }

    private static void due(Object want, String what, Checks.Call call) {
        CHECKS.due(want, what, call);
    }

    private static void theShareOfAllBytes() {
        MountTable x = Tables.withLayers(2);
        x.mount(0, 0, -1);
        x.write(0, 1, 1);
        x.write(1, 2, 2);
        due(1f, "all", () -> x.shownShare());
        x.mount(2, 1, -1);
        due(1f / 3f, "a third", () -> x.shownShare());
        x.mount(0, 1, -1);
        due(0f, "none", () -> x.shownShare());
    }

    private static void aFileShownTwiceCountsOnce() {
        MountTable x = Tables.withLayers(2);
        x.mount(1, 0, -1);
        x.mount(2, 0, -1);
        x.mount(3, 1, -1);
        x.write(0, 11, 5);
        x.write(0, 31, 5);
        x.unmount(2);
        due(0.5f, "half", () -> x.shownShare());
        due(0.5f, "half again", () -> x.shownShare());
    }

    private static void noBytesHaveNoShare() {
        MountTable x = Tables.withLayers(1);
        due(ARITHMETIC, "no files", () -> x.shownShare());
        x.mount(0, 0, -1);
        x.write(0, 1, 0);
        x.link(0, 2, 1);
        due(ARITHMETIC, "an empty file", () -> x.shownShare());
        x.write(0, 3, 1);
        due(1f, "one byte", () -> x.shownShare());
        x.remove(3);
        due(ARITHMETIC, "none again", () -> x.shownShare());
    }

    private static void meansOfLayers() {
        MountTable x = Tables.withLayers(2);
        x.mount(0, 0, 1);
        x.write(0, 1, 1);
        due(1.0, "one file", () -> x.meanSize(1));
        x.write(1, 2, 2);
        due(1.5, "two files", () -> x.meanSize(1));
        x.write(2, 4444, 2);
        due(5.0 / 3.0, "three files", () -> x.meanSize(1));
        x.link(0, 1, 2);
        due(2.0, "a link is no file", () -> x.meanSize(1));
        x.write(0, 1, 0);
        due(4.0 / 3.0, "an empty file is one", () -> x.meanSize(1));
        x.unmount(0);
        due(4.0 / 3.0, "without a mount", () -> x.meanSize(1));
    }

    private static void noFilesHaveNoMean() {
        MountTable x = Tables.withLayers(2);
        due(ARITHMETIC, "nothing", () -> x.meanSize(0));
        x.mount(0, 0, -1);
        x.link(0, 1, 2);
        due(ARITHMETIC, "a link alone", () -> x.meanSize(0));
        x.write(0, 1, 0);
        due(0.0, "an empty file", () -> x.meanSize(0));
        x.mount(0, 0, 1);
        x.remove(1);
        due(ARITHMETIC, "a whiteout alone", () -> x.meanSize(1));
        due(INDEX, "layer -1", () -> x.meanSize(-1));
        due(INDEX, "layer 2", () -> x.meanSize(2));
        due(INDEX, "layer 6", () -> x.meanSize(6));
    }
}
