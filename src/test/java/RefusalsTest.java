import java.util.function.Supplier;

/** The two sentences of the document on exceptions, for each call that throws some. */
public final class RefusalsTest {
    private static final String NOTHING_CHANGES = "A method that throws an exception changes nothing.";
    private static final String THE_FIRST_IS_THROWN =
            "If several exceptions apply, the one that is documented first is thrown.";

    /** A call that is refused. */
    interface Refused {
        Object by(MountTable table);
    }

    public static void main(String[] args) {
        sentences().run(args);
    }

    static Sentences sentences() {
        Sentences all = new Sentences();
        all.in("Exceptions");
        all.says(NOTHING_CHANGES, RefusalsTest::refusedMountsChangeNothing);
        all.says(NOTHING_CHANGES, RefusalsTest::refusedWritesChangeNothing);
        all.says(NOTHING_CHANGES, RefusalsTest::refusedLinksAndRemovesChangeNothing);
        all.says(NOTHING_CHANGES, RefusalsTest::refusedLooksChangeNothing);
        all.says(NOTHING_CHANGES, RefusalsTest::refusedCallsOnAFullOneChangeNothing);
        all.says(NOTHING_CHANGES, RefusalsTest::refusedCallsOnANewOneChangeNothing);
        all.says(THE_FIRST_IS_THROWN, RefusalsTest::ofMount);
        all.says(THE_FIRST_IS_THROWN, RefusalsTest::ofMove);
        all.says(THE_FIRST_IS_THROWN, RefusalsTest::ofWrite);
        all.says(THE_FIRST_IS_THROWN, RefusalsTest::ofLink);
        all.says(THE_FIRST_IS_THROWN, RefusalsTest::ofLookers);
        all.says(THE_FIRST_IS_THROWN, RefusalsTest::ofFollowers);
        return all;
    }

    // ---- the objects that refuse

    /**
     * Layers 0 to 4 and three mounts that are there: 0 at the empty path with layer 0, 1 over it
     * with layers 0 and 1, 2 at 1 with layer 2; mount 3, at 3, is unmounted. Links from 31 and
     * from 111 are five: those from 31 stay in mount 1, the last one from 111 leads out of mount 2.
     */
    private static MountTable rich() {
        MountTable table = Tables.withLayers(5);
        table.mount(0, 0, -1);
        table.write(0, 2, 100);
        table.write(1, 3, 50);
        table.link(2, 4, 2);
        table.write(0, 11, 7);
        table.write(3, 22, 0);
        table.mount(0, 0, 1);
        table.remove(3);
        table.write(1, 4, 60);
        table.mount(1, 2, -1);
        table.mount(3, 3, 4);
        table.write(2, 31, 5);
        table.unmount(3);
        linkOn(table, new int[] {31, 32, 33, 34, 42, 43});
        linkOn(table, new int[] {111, 112, 113, 114, 121, 2});
        table.link(3, 12, 2);
        table.link(3, 13, 4444);
        table.setCrossing(1, true);
        table.backUp(true);
        table.backUp(false);
        table.setQuota(0, 110);
        table.setQuota(1, 10);
        table.write(0, 21, 3);
        return table;
    }

    private static void linkOn(MountTable table, int[] stations) {
        for (int i = 0; i + 1 < stations.length; i++) {
            table.link(2, stations[i], stations[i + 1]);
        }
    }

    /** As many layers, mounts and backups as can be; layer 1 is an upper one. */
    private static MountTable full() {
        MountTable table = Tables.withLayers(6);
        for (int number = 0; number < 8; number++) {
            table.mount(0, 0, number == 0 ? 1 : -1);
        }
        table.unmount(7);
        table.write(1, 12, 9);
        for (int number = 0; number < 6; number++) {
            table.backUp(number % 2 == 0);
        }
        table.write(1, 13, 5);
        return table;
    }

    /** Looks at one object before and after a call that it refuses, at all that can be asked. */
    private static void refuse(Checks c, Supplier<MountTable> maker, Object due, String what, Refused refused) {
        c.due(due, what, () -> refused.by(maker.get()));
        c.due(Probe.of(maker), what + ", and what the object holds then", () -> Probe.of(() -> afterRefusal(maker, refused)));
    }

    private static MountTable afterRefusal(Supplier<MountTable> maker, Refused refused) {
        MountTable table = maker.get();
        Checks.told(() -> refused.by(table));
        return table;
    }

    // ---- what is refused changes nothing

    private static void refusedMountsChangeNothing(Checks c) {
        Supplier<MountTable> rich = RefusalsTest::rich;
        refuse(c, rich, Checks.ARGUMENT, "mount at no path", x -> x.mount(5, 3, 4));
        refuse(c, rich, Checks.ARGUMENT, "mount of one layer twice", x -> x.mount(0, 3, 3));
        refuse(c, rich, Checks.INDEX, "mount without a lower layer", x -> x.mount(0, 5, 4));
        refuse(c, rich, Checks.INDEX, "mount without that upper layer", x -> x.mount(0, 3, 5));
        refuse(c, rich, Checks.OPERATION, "mount with an upper one as lower", x -> x.mount(0, 1, 4));
        refuse(c, rich, Checks.OPERATION, "mount with an upper one as upper", x -> x.mount(0, 3, 1));
        refuse(c, rich, Checks.OPERATION, "mount with a lower one as upper", x -> x.mount(0, 3, 2));
        refuse(c, rich, Checks.INDEX, "unmount none", x -> x.unmount(4));
        refuse(c, rich, Checks.INDEX, "unmount again", x -> x.unmount(3));
        refuse(c, rich, Checks.INDEX, "move none", x -> x.move(4, 2));
        refuse(c, rich, Checks.INDEX, "move an unmounted one", x -> x.move(3, 2));
        refuse(c, rich, Checks.ARGUMENT, "move to no path", x -> x.move(1, 50));
        refuse(c, rich, Checks.INDEX, "cross none", x -> x.setCrossing(4, true));
        refuse(c, rich, Checks.INDEX, "cross an unmounted one", x -> x.setCrossing(3, true));
    }

    private static void refusedWritesChangeNothing(Checks c) {
        Supplier<MountTable> rich = RefusalsTest::rich;
        refuse(c, rich, Checks.ARGUMENT, "write by no owner", x -> x.write(4, 2, 1));
        refuse(c, rich, Checks.ARGUMENT, "write below 0 bytes", x -> x.write(0, 2, -1));
        refuse(c, rich, Checks.ARGUMENT, "write of too many bytes", x -> x.write(2, 2, 10000));
        refuse(c, rich, Checks.ARGUMENT, "write at no path", x -> x.write(0, 25, 1));
        refuse(c, rich, Checks.ELEMENT, "write at the empty path", x -> x.write(2, 0, 1));
        refuse(c, rich, Checks.ELEMENT, "write at a point", x -> x.write(2, 1, 1));
        refuse(c, rich, Checks.OPERATION, "write over a lower file", x -> x.write(0, 2, 9));
        refuse(c, rich, Checks.OPERATION, "write over an upper file", x -> x.write(0, 21, 9));
        refuse(c, rich, Checks.OPERATION, "write over a whiteout", x -> x.write(0, 3, 9));
        refuse(c, rich, Checks.OPERATION, "write over a link", x -> x.write(0, 31, 9));
        refuse(c, rich, Checks.OPERATION, "write over nothing", x -> x.write(0, 44, 9));
        refuse(c, rich, Checks.OPERATION, "write over another's file", x -> x.write(0, 4, 9));
        refuse(c, rich, Checks.OPERATION, "write without an upper layer", x -> x.write(0, 14, 9));
        refuse(c, rich, Checks.OPERATION, "write by one over the quota", x -> x.write(1, 44, 0));
        refuse(c, rich, Checks.OPERATION, "write less by one over the quota", x -> x.write(1, 4, 1));
    }

    private static void refusedLinksAndRemovesChangeNothing(Checks c) {
        Supplier<MountTable> rich = RefusalsTest::rich;
        refuse(c, rich, Checks.ARGUMENT, "link by no owner", x -> x.link(-1, 2, 3));
        refuse(c, rich, Checks.ARGUMENT, "link at no path", x -> x.link(0, 20, 3));
        refuse(c, rich, Checks.ARGUMENT, "link to no path", x -> x.link(0, 2, 30));
        refuse(c, rich, Checks.ELEMENT, "link at the empty path", x -> x.link(0, 0, 3));
        refuse(c, rich, Checks.ELEMENT, "link at a point", x -> x.link(0, 1, 3));
        refuse(c, rich, Checks.ARGUMENT, "remove at no path", x -> x.remove(55));
        refuse(c, rich, Checks.ELEMENT, "remove nothing", x -> x.remove(44));
        refuse(c, rich, Checks.ELEMENT, "remove a whiteout", x -> x.remove(3));
        refuse(c, rich, Checks.ELEMENT, "remove what a point covers", x -> x.remove(11));
        refuse(c, rich, Checks.ELEMENT, "remove the empty path", x -> x.remove(0));
    }

    private static void refusedLooksChangeNothing(Checks c) {
        Supplier<MountTable> rich = RefusalsTest::rich;
        refuse(c, rich, Checks.ARGUMENT, "served", x -> x.served(-1));
        refuse(c, rich, Checks.ARGUMENT, "shows", x -> x.shows(5));
        refuse(c, rich, Checks.ARGUMENT, "layerOf no path", x -> x.layerOf(10));
        refuse(c, rich, Checks.ELEMENT, "layerOf nothing", x -> x.layerOf(44));
        refuse(c, rich, Checks.ARGUMENT, "end of no path", x -> x.end(11111));
        refuse(c, rich, Checks.OPERATION, "end of a link that does not cross", x -> x.end(12));
        refuse(c, rich, Checks.OPERATION, "end of five of which the last does not cross", x -> x.end(111));
        refuse(c, rich, Checks.STATE, "end of five links", x -> x.end(31));
        refuse(c, rich, Checks.ARGUMENT, "size of no path", x -> x.size(4445));
        refuse(c, rich, Checks.OPERATION, "size behind a link that does not cross", x -> x.size(12));
        refuse(c, rich, Checks.STATE, "size behind five links", x -> x.size(31));
        refuse(c, rich, Checks.ELEMENT, "size of nothing behind four links", x -> x.size(32));
        refuse(c, rich, Checks.ARGUMENT, "sizeByWalking", x -> x.sizeByWalking(404));
        refuse(c, rich, Checks.ARGUMENT, "ownerOf no path", x -> x.ownerOf(6));
        refuse(c, rich, Checks.ELEMENT, "ownerOf nothing", x -> x.ownerOf(44));
        refuse(c, rich, Checks.ARGUMENT, "quota of none", x -> x.setQuota(4, 5));
        refuse(c, rich, Checks.ARGUMENT, "quota out of range", x -> x.setQuota(0, 100000));
        refuse(c, rich, Checks.ARGUMENT, "used", x -> x.used(4));
        refuse(c, rich, Checks.ARGUMENT, "usedByLayers", x -> x.usedByLayers(-1));
        refuse(c, rich, Checks.INDEX, "whiteouts", x -> x.whiteouts(5));
        refuse(c, rich, Checks.INDEX, "bytes", x -> x.bytes(2));
        refuse(c, rich, Checks.INDEX, "differences", x -> x.differences(2));
        refuse(c, rich, Checks.INDEX, "mean size of no layer", x -> x.meanSize(5));
        refuse(c, rich, Checks.ARITHMETIC, "mean size of no files", x -> x.meanSize(3));
    }

    private static void refusedCallsOnAFullOneChangeNothing(Checks c) {
        Supplier<MountTable> full = RefusalsTest::full;
        refuse(c, full, Checks.STATE, "a seventh layer", x -> x.addLayer());
        refuse(c, full, Checks.STATE, "a ninth mount", x -> x.mount(1, 0, -1));
        refuse(c, full, Checks.STATE, "a ninth mount with an upper layer", x -> x.mount(1, 0, 2));
        refuse(c, full, Checks.STATE, "a seventh backup of what is seen", x -> x.backUp(true));
        refuse(c, full, Checks.STATE, "a seventh backup of what is there", x -> x.backUp(false));
    }

    private static void refusedCallsOnANewOneChangeNothing(Checks c) {
        Supplier<MountTable> none = MountTable::new;
        refuse(c, none, Checks.INDEX, "mount", x -> x.mount(0, 0, -1));
        refuse(c, none, Checks.INDEX, "unmount", x -> x.unmount(0));
        refuse(c, none, Checks.INDEX, "move", x -> x.move(0, 1));
        refuse(c, none, Checks.INDEX, "setCrossing", x -> x.setCrossing(0, true));
        refuse(c, none, Checks.ELEMENT, "served", x -> x.served(1));
        refuse(c, none, Checks.ELEMENT, "write", x -> x.write(0, 1, 1));
        refuse(c, none, Checks.ELEMENT, "link", x -> x.link(0, 1, 2));
        refuse(c, none, Checks.ELEMENT, "remove", x -> x.remove(1));
        refuse(c, none, Checks.ELEMENT, "size", x -> x.size(1));
        refuse(c, none, Checks.INDEX, "whiteouts", x -> x.whiteouts(0));
        refuse(c, none, Checks.INDEX, "bytes", x -> x.bytes(0));
        refuse(c, none, Checks.ARITHMETIC, "shownShare", x -> x.shownShare());
        refuse(c, none, Checks.INDEX, "meanSize", x -> x.meanSize(0));
    }

    // ---- the first of several

    private static void ofMount(Checks c) {
        MountTable x = full();
        c.due(Checks.ARGUMENT, "no path and no lower layer", () -> x.mount(5, 6, -1));
        c.due(Checks.ARGUMENT, "no path and no upper layer", () -> x.mount(5, 0, 6));
        c.due(Checks.ARGUMENT, "no path and a layer in use", () -> x.mount(5, 1, -1));
        c.due(Checks.ARGUMENT, "no path and eight mounts", () -> x.mount(5, 0, -1));
        c.due(Checks.ARGUMENT, "one layer twice, which is not there", () -> x.mount(0, 6, 6));
        c.due(Checks.ARGUMENT, "one layer twice, which is in use", () -> x.mount(0, 1, 1));
        c.due(Checks.ARGUMENT, "one layer twice and eight mounts", () -> x.mount(0, 2, 2));
        c.due(Checks.INDEX, "no lower layer and an upper one in use", () -> x.mount(0, 6, 1));
        c.due(Checks.INDEX, "no lower layer and a lower one as upper", () -> x.mount(0, -1, 0));
        c.due(Checks.INDEX, "a lower one in use and no upper layer", () -> x.mount(0, 1, 6));
        c.due(Checks.INDEX, "no lower layer and eight mounts", () -> x.mount(0, 6, -1));
        c.due(Checks.INDEX, "no upper layer and eight mounts", () -> x.mount(0, 0, -2));
        c.due(Checks.OPERATION, "an upper one as lower and eight mounts", () -> x.mount(0, 1, -1));
        c.due(Checks.OPERATION, "an upper one as upper and eight mounts", () -> x.mount(0, 2, 1));
        c.due(Checks.OPERATION, "a lower one as upper and eight mounts", () -> x.mount(0, 2, 0));
        c.due(Checks.STATE, "eight mounts alone", () -> x.mount(0, 2, 3));
    }

    private static void ofMove(Checks c) {
        MountTable x = rich();
        c.due(Checks.INDEX, "no mount and no path", () -> x.move(4, 5));
        c.due(Checks.INDEX, "a mount below 0 and no path", () -> x.move(-1, -1));
        c.due(Checks.INDEX, "an unmounted one and no path", () -> x.move(3, 10));
        c.due(Checks.ARGUMENT, "no path alone", () -> x.move(2, 10));
    }

    private static void ofWrite(Checks c) {
        MountTable none = new MountTable();
        MountTable x = rich();
        for (MountTable table : new MountTable[] {none, x}) {
            c.due(Checks.ARGUMENT, "no owner and no rest", () -> table.write(4, 0, 1));
            c.due(Checks.ARGUMENT, "no size and no rest", () -> table.write(0, 0, 10000));
            c.due(Checks.ARGUMENT, "no path and no mount", () -> table.write(0, 5, 1));
            c.due(Checks.ELEMENT, "no rest and too many bytes", () -> table.write(0, 0, 9999));
        }
        none.setQuota(0, 0);
        c.due(Checks.ELEMENT, "no mount and too many bytes", () -> none.write(0, 2, 1));
        c.due(Checks.ELEMENT, "a point and too many bytes", () -> x.write(0, 1, 9999));
        c.due(Checks.ARGUMENT, "no path and too many bytes", () -> x.write(0, 20, 9999));
        c.due(Checks.ARGUMENT, "no size, which is too much too", () -> x.write(0, 2, 10000));
        c.due(Checks.ARGUMENT, "no size by one over the quota", () -> x.write(1, 2, -1));
        c.due(Checks.OPERATION, "too many bytes alone", () -> x.write(0, 2, 9999));
    }

    private static void ofLink(Checks c) {
        for (MountTable x : new MountTable[] {new MountTable(), rich()}) {
            c.due(Checks.ARGUMENT, "no owner and no mount or rest", () -> x.link(4, 0, 1));
            c.due(Checks.ARGUMENT, "no path and no mount", () -> x.link(0, 5, 1));
            c.due(Checks.ARGUMENT, "no target and no mount or rest", () -> x.link(0, 0, 5));
            c.due(Checks.ARGUMENT, "no target and no mount or rest at a point", () -> x.link(0, 1, 10));
            c.due(Checks.ELEMENT, "no mount or rest alone", () -> x.link(0, 1, 1));
        }
    }

    private static void ofLookers(Checks c) {
        for (MountTable x : new MountTable[] {new MountTable(), rich()}) {
            for (int path : new int[] {-1, 5, 10, 45, 444444}) {
                c.due(Checks.ARGUMENT, "served of no path", () -> x.served(path));
                c.due(Checks.ARGUMENT, "remove of no path", () -> x.remove(path));
                c.due(Checks.ARGUMENT, "layerOf of no path", () -> x.layerOf(path));
                c.due(Checks.ARGUMENT, "ownerOf of no path", () -> x.ownerOf(path));
                c.due(Checks.ARGUMENT, "size of no path", () -> x.size(path));
            }
        }
        MountTable x = rich();
        c.due(Checks.ARGUMENT, "no owner and no quota", () -> x.setQuota(4, -1));
        c.due(Checks.INDEX, "the mean size of no layer", () -> new MountTable().meanSize(0));
    }

    private static void ofFollowers(Checks c) {
        MountTable x = rich();
        c.due(Checks.OPERATION, "end of a fifth link that does not lead on", () -> x.end(111));
        c.due(Checks.OPERATION, "size of a fifth link that does not lead on", () -> x.size(111));
        c.due(Checks.OPERATION, "size of nothing behind a link that does not lead on", () -> x.size(13));
        c.due(Checks.STATE, "size of nothing behind five links", () -> x.size(31));
        x.setCrossing(2, true);
        c.due(Checks.STATE, "end of a fifth link that leads on", () -> x.end(111));
        c.due(Checks.STATE, "size of a fifth link that leads on", () -> x.size(111));
        c.due(Checks.ELEMENT, "size of nothing behind a link that leads on", () -> x.size(13));
    }
}
