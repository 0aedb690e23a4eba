/** Promises 18 to 23, sentence by sentence: quotas, bytes and whiteouts. */
public final class QuotasTest {
    public static void main(String[] args) {
        sentences().run(args);
    }

    static Sentences sentences() {
        Sentences all = new Sentences();
        all.in("Promise 18:");
        all.says("Sets the quota of an owner", QuotasTest::aQuotaIsSet);
        all.says("which can be less than what is used", QuotasTest::aQuotaBelowWhatIsUsed);
        all.says("`owner`: the owner, 0 to 3", QuotasTest::eachOwnerHasAQuota);
        all.says("`bytes`: the quota, 0 to 99999", QuotasTest::quotasFromLeastToMost);
        all.says("Returns the quota before.", QuotasTest::theQuotaBeforeIsTold);
        all.says("if a number is out of range", QuotasTest::setQuotaChecksItsNumbers);
        tellOfSums(all);
        tellOfHidden(all);
        all.in("Promise 22:");
        all.says("Returns the number of copies upward.", QuotasTest::copiesByWriteAndLink);
        all.says("Returns the number of copies.", QuotasTest::noOtherCallIsACopy);
        all.in("Promise 23:");
        all.says("Returns the number of whiteouts of a layer.", QuotasTest::whiteoutsComeAndGo);
        all.says("`layer`: the number of the layer", QuotasTest::eachLayerHasItsWhiteouts);
        all.says("Returns the number of whiteouts.", QuotasTest::manyWhiteouts);
        all.says("if there is no such layer", QuotasTest::noWhiteoutsOfNoLayer);
        return all;
    }

    private static void tellOfSums(Sentences all) {
        all.in("Promise 19:");
        all.says("Returns the bytes that an owner uses, as they are kept.",
                c -> bytesComeAndGo(c, MountTable::used));
        all.says("`owner`: the owner, 0 to 3", c -> eachOwnerHasBytes(c, MountTable::used));
        all.says("Returns the bytes.", c -> fromNoBytesToMost(c, MountTable::used));
        all.says("if the owner is out of range", c -> wantsAnOwner(c, MountTable::used));
        all.in("Promise 20:");
        all.says("Returns the same bytes", c -> bytesComeAndGo(c, MountTable::usedByLayers));
        all.says("found from all layers", QuotasTest::bytesOfAllLayers);
        all.says("`owner`: the owner, 0 to 3", c -> eachOwnerHasBytes(c, MountTable::usedByLayers));
        all.says("Returns the bytes.", c -> fromNoBytesToMost(c, MountTable::usedByLayers));
        all.says("if the owner is out of range", c -> wantsAnOwner(c, MountTable::usedByLayers));
    }

    private static void tellOfHidden(Sentences all) {
        all.in("Promise 21:");
        all.says("Returns the bytes of those of all files that no path of 1 to 4 digits shows.", QuotasTest::hiddenBytes);
        all.says("of all files", QuotasTest::filesOfAllOwnersAreHidden);
        all.says("no path", QuotasTest::onePathIsEnough);
        all.says("of 1 to 4 digits", QuotasTest::tooDeepIsHidden);
        all.says("Returns the bytes.", QuotasTest::fromNoneToAllAreHidden);
    }

    // ---- setQuota

    private static void aQuotaIsSet(Checks c) {
        MountTable x = Tables.sole();
        x.setQuota(1, 10);
        c.due(Checks.OPERATION, "more than it", () -> x.write(1, 1, 11));
        c.due(10, "just it", () -> x.write(1, 1, 10));
        x.setQuota(1, 30000);
        for (int digit = 2; digit <= 4; digit++) {
            x.write(1, digit, 9990);
        }
        c.due(29980, "more than the first quota", () -> x.used(1));
        c.due(Checks.OPERATION, "more than the new quota", () -> x.write(1, 11, 21));
        c.due(30000, "just the new quota", () -> x.write(1, 11, 20));
    }

    private static void aQuotaBelowWhatIsUsed(Checks c) {
        MountTable x = Tables.sole();
        x.write(3, 1, 50);
        c.due(20000, "less by one", () -> x.setQuota(3, 49));
        c.due(49, "none", () -> x.setQuota(3, 0));
        c.due(50, "it takes nothing away", () -> x.used(3));
        c.due(50, "nor by layers", () -> x.usedByLayers(3));
        c.due(50, "the file stays", () -> x.size(1));
        c.due(Checks.OPERATION, "but an empty file is refused", () -> x.write(3, 2, 0));
        c.due(0, "and an empty one in its place is not", () -> x.write(3, 1, 0));
    }

    private static void eachOwnerHasAQuota(Checks c) {
        MountTable x = Tables.sole();
        for (int owner = 0; owner <= 3; owner++) {
            int asked = owner;
            c.due(20000, "the first of " + owner, () -> x.setQuota(asked, 10 + asked));
        }
        for (int owner = 0; owner <= 3; owner++) {
            int asked = owner;
            c.due(Checks.OPERATION, "too much of " + owner, () -> x.write(asked, 11 + asked, 11 + asked));
            c.due(10 + owner, "just enough of " + owner, () -> x.write(asked, 11 + asked, 10 + asked));
        }
    }

    private static void quotasFromLeastToMost(Checks c) {
        MountTable x = new MountTable();
        int before = 20000;
        for (int quota : new int[] {0, 1, 9999, 10000, 20000, 65536, 99998, 99999, 99999, 0}) {
            c.due(before, "before " + quota, () -> x.setQuota(0, quota));
            before = quota;
        }
        MountTable most = Tables.sole();
        most.setQuota(0, 99999);
        for (int i = 1; i <= 10; i++) {
            most.write(0, Tables.paths()[i], 9999);
        }
        c.due(Checks.OPERATION, "one more than the most", () -> most.write(0, 4444, 10));
        c.due(99999, "the most", () -> most.write(0, 4444, 9));
    }

    private static void theQuotaBeforeIsTold(Checks c) {
        MountTable x = Tables.sole();
        x.write(2, 1, 5);
        c.due(20000, "at first", () -> x.setQuota(2, 7));
        c.due(7, "then", () -> x.setQuota(2, 7));
        c.due(7, "the same again", () -> x.setQuota(2, 3));
        c.due(3, "below what is used", () -> x.setQuota(2, 1));
        c.due(20000, "another's", () -> x.setQuota(1, 1));
    }

    private static void setQuotaChecksItsNumbers(Checks c) {
        MountTable x = new MountTable();
        for (int owner : Tables.NO_OWNERS) {
            c.due(Checks.ARGUMENT, "owner " + owner, () -> x.setQuota(owner, 5));
            c.due(Checks.ARGUMENT, "owner " + owner + " and bytes", () -> x.setQuota(owner, -1));
        }
        for (int bytes : new int[] {-1, -20000, 100000, 100001, Integer.MAX_VALUE, Integer.MIN_VALUE}) {
            c.due(Checks.ARGUMENT, "bytes " + bytes, () -> x.setQuota(0, bytes));
        }
        for (int owner = 0; owner <= 3; owner++) {
            int asked = owner;
            c.due(20000, "the quota of " + owner + " stayed", () -> x.setQuota(asked, 0));
        }
    }

    // ---- used and usedByLayers

    /** A call that asks for the bytes of an owner. */
    interface Sum {
        Object of(MountTable table, int owner);
    }

    private static void bytesComeAndGo(Checks c, Sum sum) {
        MountTable x = Tables.overlay();
        c.due(7, "a lower file", () -> sum.of(x, 3));
        x.write(3, 2, 10);
        c.due(17, "with its copy", () -> sum.of(x, 3));
        x.write(3, 2, 4);
        c.due(11, "with a smaller copy", () -> sum.of(x, 3));
        x.write(1, 2, 20);
        c.due(7, "with another's in place of it", () -> sum.of(x, 3));
        c.due(20, "the other's", () -> sum.of(x, 1));
        x.link(3, 2, 4);
        c.due(0, "the other's, under a link", () -> sum.of(x, 1));
        c.due(7, "a link has none", () -> sum.of(x, 3));
        x.write(1, 2, 6);
        x.remove(2);
        c.due(0, "the other's, removed", () -> sum.of(x, 1));
        c.due(7, "under a whiteout", () -> sum.of(x, 3));
        x.unmount(1);
        x.unmount(0);
        c.due(7, "without a mount", () -> sum.of(x, 3));
        x.mount(0, 0, -1);
        x.remove(2);
        c.due(0, "removed", () -> sum.of(x, 3));
    }

    private static void eachOwnerHasBytes(Checks c, Sum sum) {
        MountTable x = Tables.sole();
        for (int owner = 0; owner <= 3; owner++) {
            x.write(owner, 11 + owner, 5 + owner);
        }
        for (int owner = 0; owner <= 3; owner++) {
            int asked = owner;
            c.due(5 + owner, "owner " + owner, () -> sum.of(x, asked));
        }
    }

    private static void fromNoBytesToMost(Checks c, Sum sum) {
        MountTable x = Tables.sole();
        c.due(0, "at first", () -> sum.of(x, 0));
        x.write(0, 1, 0);
        c.due(0, "with an empty file", () -> sum.of(x, 0));
        x.write(0, 1, 1);
        c.due(1, "with one byte", () -> sum.of(x, 0));
        x.write(0, 1, 9999);
        c.due(9999, "with the largest file", () -> sum.of(x, 0));
        x.write(0, 2, 9999);
        x.write(0, 3, 2);
        c.due(20000, "with all that the first quota allows", () -> sum.of(x, 0));
        x.setQuota(0, 5);
        c.due(20000, "over the quota", () -> sum.of(x, 0));
    }

    private static void wantsAnOwner(Checks c, Sum sum) {
        for (MountTable x : new MountTable[] {new MountTable(), Tables.overlay()}) {
            for (int owner : Tables.NO_OWNERS) {
                c.due(Checks.ARGUMENT, "owner " + owner, () -> sum.of(x, owner));
            }
        }
    }

    private static void bytesOfAllLayers(Checks c) {
        MountTable x = new MountTable();
        for (int layer = 0; layer < 6; layer++) {
            x.addLayer();
            x.mount(0, layer, -1);
            x.write(1, 1, 1);
            x.write(1, 4444, 10);
            c.due(11 * (layer + 1), "of " + (layer + 1) + " layers", () -> x.usedByLayers(1));
            c.due(x.used(1), "the same", () -> x.usedByLayers(1));
        }
    }

    // ---- hidden

    private static void hiddenBytes(Checks c) {
        MountTable x = Tables.withLayers(3);
        x.mount(0, 0, -1);
        x.write(0, 1, 100);
        x.write(0, 12, 20);
        x.write(0, 2, 3);
        c.due(0, "all are shown", () -> x.hidden());
        x.mount(1, 1, -1);
        c.due(120, "a mount covers two", () -> x.hidden());
        x.write(1, 12, 7);
        c.due(120, "its own is shown", () -> x.hidden());
        x.mount(0, 0, 2);
        c.due(7, "a third shows the first two again", () -> x.hidden());
        x.remove(2);
        c.due(10, "a whiteout hides", () -> x.hidden());
        x.write(0, 1, 50);
        c.due(110, "a copy upward hides", () -> x.hidden());
        x.link(0, 12, 1);
        c.due(130, "a link hides", () -> x.hidden());
        c.due(130, "asked again", () -> x.hidden());
    }

    private static void filesOfAllOwnersAreHidden(Checks c) {
        MountTable x = Tables.withLayers(2);
        x.mount(0, 0, -1);
        x.mount(0, 1, -1);
        for (int owner = 0; owner <= 3; owner++) {
            x.write(owner, 11 + owner, 1 << owner);
        }
        c.due(0, "all are shown", () -> x.hidden());
        x.mount(0, 0, -1);
        c.due(15, "one of each owner", () -> x.hidden());
    }

    private static void onePathIsEnough(Checks c) {
        MountTable x = Tables.withLayers(2);
        x.mount(1, 0, -1);
        x.mount(2, 0, -1);
        x.mount(3, 0, -1);
        x.write(0, 13, 4);
        c.due(0, "at three paths", () -> x.hidden());
        x.mount(1, 1, -1);
        c.due(0, "at two paths", () -> x.hidden());
        x.unmount(1);
        c.due(0, "at one path", () -> x.hidden());
        x.mount(33, 1, -1);
        c.due(4, "at none", () -> x.hidden());
    }

    private static void tooDeepIsHidden(Checks c) {
        MountTable x = Tables.sole();
        x.write(0, 1, 1);
        x.write(0, 22, 20);
        x.write(0, 333, 300);
        x.write(0, 4444, 4000);
        c.due(0, "at the empty point", () -> x.hidden());
        int[] due = {4000, 4300, 4320, 4321};
        int[] points = {3, 33, 333, 3333};
        for (int i = 0; i < 4; i++) {
            int point = points[i];
            x.move(0, point);
            c.due(due[i], "at the point " + point, () -> x.hidden());
        }
        MountTable first = Tables.sole();
        first.write(0, 1111, 9);
        for (int point : new int[] {1, 4, 11, 111, 1111}) {
            first.move(0, point);
            c.due(9, "1111 behind the point " + point, () -> first.hidden());
        }
    }

    private static void fromNoneToAllAreHidden(Checks c) {
        MountTable x = new MountTable();
        c.due(0, "without layers", () -> x.hidden());
        x.addLayer();
        c.due(0, "without mounts", () -> x.hidden());
        x.mount(0, 0, -1);
        c.due(0, "without files", () -> x.hidden());
        x.write(0, 1, 0);
        x.unmount(0);
        c.due(0, "an empty file", () -> x.hidden());
        x.mount(0, 0, -1);
        x.write(0, 1, 9999);
        x.write(1, 2, 9999);
        x.unmount(1);
        c.due(19998, "all", () -> x.hidden());
    }

    // ---- copies

    private static void copiesByWriteAndLink(Checks c) {
        MountTable x = Tables.overlay();
        c.due(0, "at first", () -> x.copies());
        x.write(0, 2, 1);
        c.due(1, "by a file", () -> x.copies());
        x.unmount(1);
        x.write(0, 3, 1);
        x.link(0, 4, 1);
        c.due(1, "it stays counted", () -> x.copies());
        x.mount(0, 0, 1);
        x.link(0, 3, 1);
        c.due(2, "by a link over a file", () -> x.copies());
        x.write(0, 4, 1);
        c.due(3, "by a file over a link", () -> x.copies());
    }

    private static void noOtherCallIsACopy(Checks c) {
        MountTable x = Tables.overlay();
        x.setQuota(0, 0);
        c.due(Checks.OPERATION, "a write that is refused", () -> x.write(0, 2, 1));
        c.due(0, "is none", () -> x.copies());
        x.write(0, 3, 0);
        x.write(0, 3, 0);
        x.link(0, 3, 2);
        c.due(0, "nor are files over nothing and over an upper file", () -> x.copies());
        x.remove(2);
        x.write(0, 2, 0);
        c.due(0, "nor one over a whiteout", () -> x.copies());
        x.unmount(1);
        x.write(3, 2, 1);
        x.link(3, 2, 1);
        c.due(0, "nor any without an upper layer", () -> x.copies());
        MountTable both = Tables.withLayers(2);
        both.mount(1, 0, -1);
        both.mount(2, 0, 1);
        both.write(0, 12, 1);
        both.write(0, 12, 2);
        c.due(0, "nor a write into the layer that is lower elsewhere", () -> both.copies());
        both.write(0, 22, 2);
        c.due(1, "but one through the overlay", () -> both.copies());
    }

    // ---- whiteouts

    private static void whiteoutsComeAndGo(Checks c) {
        MountTable x = Tables.overlay();
        c.due(0, "at first", () -> x.whiteouts(1));
        x.remove(2);
        c.due(1, "by remove", () -> x.whiteouts(1));
        x.write(0, 2, 1);
        c.due(0, "written over", () -> x.whiteouts(1));
        x.remove(2);
        c.due(1, "by remove over a lower file", () -> x.whiteouts(1));
        x.link(0, 2, 1);
        c.due(0, "linked over", () -> x.whiteouts(1));
        x.write(0, 3, 1);
        x.remove(3);
        c.due(0, "none over nothing", () -> x.whiteouts(1));
        x.remove(2);
        x.unmount(1);
        c.due(1, "it stays in the layer", () -> x.whiteouts(1));
        x.remove(2);
        c.due(0, "none without an upper layer", () -> x.whiteouts(0));
    }

    private static void eachLayerHasItsWhiteouts(Checks c) {
        MountTable x = Tables.withLayers(6);
        x.mount(0, 0, -1);
        for (int path = 11; path <= 14; path++) {
            x.write(0, path, 1);
        }
        for (int upper = 1; upper < 6; upper++) {
            x.mount(0, 0, upper);
            for (int path = 11; path < 10 + upper; path++) {
                x.remove(path);
            }
        }
        for (int layer = 0; layer < 6; layer++) {
            int asked = layer;
            c.due(Math.max(0, layer - 1), "layer " + layer, () -> x.whiteouts(asked));
        }
    }

    private static void manyWhiteouts(Checks c) {
        MountTable x = Tables.withLayers(2);
        x.mount(0, 0, -1);
        int[] paths = Tables.paths();
        for (int i = 1; i <= 150; i++) {
            x.write(0, paths[i], 1);
        }
        x.mount(0, 0, 1);
        for (int i = 1; i <= 150; i++) {
            x.remove(paths[i]);
            c.due(i, "whiteouts", () -> x.whiteouts(1));
        }
    }

    private static void noWhiteoutsOfNoLayer(Checks c) {
        MountTable x = new MountTable();
        c.due(Checks.INDEX, "layer 0 of none", () -> x.whiteouts(0));
        x.addLayer();
        x.addLayer();
        x.addLayer();
        for (int layer : Tables.NO_NUMBERS) {
            c.due(Checks.INDEX, "layer " + layer, () -> x.whiteouts(layer));
        }
        c.due(0, "the last one", () -> x.whiteouts(2));
    }
}
