/** Promises 27 and 28, sentence by sentence: figures. */
public final class FiguresTest {
    public static void main(String[] args) {
        sentences().run(args);
    }

    static Sentences sentences() {
        Sentences all = new Sentences();
        all.in("Promise 27:");
        all.says("Returns the share of the bytes of all files that are shown", FiguresTest::theShareOfAllBytes);
        all.says("by some path of 1 to 4 digits", FiguresTest::tooDeepIsNotShown);
        all.says("Returns these bytes, those of each file counted once", FiguresTest::aFileShownTwiceCountsOnce);
        all.says("both converted to float", FiguresTest::sharesAreFloats);
        all.says("if all files together have no bytes", FiguresTest::noBytesHaveNoShare);
        all.in("Promise 28:");
        all.says("Returns the mean size of the files of a layer.", FiguresTest::meansOfFiles);
        all.says("`layer`: the number of the layer", FiguresTest::eachLayerHasItsMean);
        all.says("both converted to double", FiguresTest::meansAreDoubles);
        all.says("if there is no such layer", FiguresTest::noMeanOfNoLayer);
        all.says("if it has no files", FiguresTest::noFilesHaveNoMean);
        return all;
    }

    // ---- shownShare

    private static void theShareOfAllBytes(Checks c) {
        MountTable x = Tables.withLayers(2);
        x.mount(0, 0, -1);
        x.write(0, 1, 1);
        x.write(1, 2, 2);
        c.due(1f, "all", () -> x.shownShare());
        x.mount(2, 1, -1);
        c.due(1f / 3f, "a third", () -> x.shownShare());
        c.due(1f / 3f, "a third, asked again", () -> x.shownShare());
        x.mount(0, 1, -1);
        c.due(0f, "none", () -> x.shownShare());
        x.unmount(2);
        x.unmount(1);
        x.unmount(0);
        c.due(0f, "none without mounts", () -> x.shownShare());
    }

    private static void tooDeepIsNotShown(Checks c) {
        MountTable x = Tables.sole();
        x.write(0, 1, 1);
        x.write(0, 22, 1);
        x.write(0, 333, 1);
        x.write(0, 4444, 1);
        c.due(1f, "at the empty point", () -> x.shownShare());
        float[] due = {0.75f, 0.5f, 0.25f, 0f};
        int[] points = {3, 33, 333, 3333};
        for (int i = 0; i < 4; i++) {
            int point = points[i];
            x.move(0, point);
            c.due(due[i], "at the point " + point, () -> x.shownShare());
        }
        MountTable first = Tables.sole();
        first.write(0, 1111, 9);
        first.move(0, 1);
        c.due(0f, "1111 behind the point 1", () -> first.shownShare());
    }

    private static void aFileShownTwiceCountsOnce(Checks c) {
        MountTable x = Tables.withLayers(2);
        x.mount(1, 0, -1);
        x.mount(2, 0, -1);
        x.mount(3, 1, -1);
        x.write(0, 11, 5);
        c.due(1f, "all", () -> x.shownShare());
        x.write(0, 31, 5);
        x.unmount(2);
        c.due(0.5f, "half", () -> x.shownShare());
        c.due(0.5f, "half, asked again", () -> x.shownShare());
    }

    private static void sharesAreFloats(Checks c) {
        MountTable x = Tables.withLayers(2);
        x.mount(0, 0, -1);
        x.write(0, 1, 9998);
        x.mount(1, 1, -1);
        x.write(0, 2, 3);
        c.due((float) 3 / (float) 10001, "a small one", () -> x.shownShare());
        x.write(1, 11, 9998);
        c.due((float) 10001 / (float) 19999, "one near a half", () -> x.shownShare());
        x.write(1, 3, 9999);
        x.write(2, 4, 9999);
        c.due((float) 29999 / (float) 39997, "a large one", () -> x.shownShare());
    }

    private static void noBytesHaveNoShare(Checks c) {
        MountTable x = new MountTable();
        c.due(Checks.ARITHMETIC, "no layers", () -> x.shownShare());
        x.addLayer();
        x.mount(0, 0, -1);
        c.due(Checks.ARITHMETIC, "no files", () -> x.shownShare());
        x.write(0, 1, 0);
        x.link(0, 2, 1);
        c.due(Checks.ARITHMETIC, "an empty file and a link", () -> x.shownShare());
        x.write(0, 3, 1);
        c.due(1f, "one byte", () -> x.shownShare());
        x.unmount(0);
        c.due(0f, "one byte that is hidden", () -> x.shownShare());
        x.mount(0, 0, -1);
        x.remove(3);
        c.due(Checks.ARITHMETIC, "none again", () -> x.shownShare());
    }

    // ---- meanSize

    private static void meansOfFiles(Checks c) {
        MountTable x = Tables.withLayers(2);
        x.mount(0, 0, 1);
        x.write(0, 1, 1);
        c.due(1.0, "one file", () -> x.meanSize(1));
        x.write(1, 2, 2);
        c.due(1.5, "two files", () -> x.meanSize(1));
        x.write(2, 4444, 9);
        c.due(4.0, "three files", () -> x.meanSize(1));
        x.link(0, 1, 2);
        c.due(5.5, "a link is no file", () -> x.meanSize(1));
        x.write(0, 1, 1);
        x.write(0, 1, 4);
        c.due(5.0, "one that was written again", () -> x.meanSize(1));
        x.unmount(0);
        c.due(5.0, "without a mount", () -> x.meanSize(1));
    }

    private static void eachLayerHasItsMean(Checks c) {
        MountTable x = Tables.withLayers(6);
        for (int layer = 0; layer < 6; layer++) {
            x.mount(0, layer, -1);
            x.write(0, 1, layer);
            x.write(0, 2, 2 * layer + 1);
        }
        for (int layer = 0; layer < 6; layer++) {
            int asked = layer;
            c.due((3 * layer + 1) / 2.0, "layer " + layer, () -> x.meanSize(asked));
        }
    }

    private static void meansAreDoubles(Checks c) {
        MountTable x = Tables.sole();
        x.write(0, 1, 1);
        x.write(0, 2, 0);
        x.write(0, 3, 0);
        c.due(1.0 / 3.0, "a third", () -> x.meanSize(0));
        x.write(0, 1, 9999);
        x.write(0, 2, 9999);
        c.due(19998.0 / 3.0, "two thirds of the most", () -> x.meanSize(0));
        for (int path = 11; path <= 14; path++) {
            x.write(1, path, 1);
        }
        c.due(20002.0 / 7.0, "a seventh", () -> x.meanSize(0));
    }

    private static void noMeanOfNoLayer(Checks c) {
        MountTable x = new MountTable();
        c.due(Checks.INDEX, "layer 0 of none", () -> x.meanSize(0));
        x.addLayer();
        x.addLayer();
        x.addLayer();
        for (int layer : Tables.NO_NUMBERS) {
            c.due(Checks.INDEX, "layer " + layer, () -> x.meanSize(layer));
        }
        c.due(Checks.ARITHMETIC, "the last one", () -> x.meanSize(2));
    }

    private static void noFilesHaveNoMean(Checks c) {
        MountTable x = Tables.overlay();
        c.due(Checks.ARITHMETIC, "nothing", () -> x.meanSize(1));
        x.link(0, 1, 2);
        c.due(Checks.ARITHMETIC, "a link", () -> x.meanSize(1));
        x.remove(2);
        c.due(Checks.ARITHMETIC, "a whiteout too", () -> x.meanSize(1));
        x.write(0, 1, 0);
        c.due(0.0, "an empty file", () -> x.meanSize(1));
        x.remove(1);
        c.due(Checks.ARITHMETIC, "which is removed", () -> x.meanSize(1));
        c.due(7.0, "the other layer", () -> x.meanSize(0));
    }
}
