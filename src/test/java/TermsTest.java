import java.util.function.IntUnaryOperator;

/** The terms of the document, sentence by sentence; those on exceptions are in RefusalsTest. */
public final class TermsTest {
    private static final int[] PATHS = Tables.paths();

    public static void main(String[] args) {
        sentences().run(args);
    }

    static Sentences sentences() {
        Sentences all = new Sentences();
        all.in("What it is");
        all.says("An object is used for at most 512 calls", TermsTest::theLastCallHolds);
        all.in("Terms");
        all.says("What a path shows is the topmost layer that has it", TermsTest::theTopmostLayerShows);
        all.says("each byte is counted once", TermsTest::bytesAreCountedOnce);
        all.in("Paths");
        all.says("A path is a row of 0 to 4 digits from 1 to 4", TermsTest::numbersThatArePaths);
        all.says("or 0 for the empty one", TermsTest::theEmptyPathIs0);
        all.says("A path begins with another one if this is a beginning of it, or all of it", TermsTest::beginnings);
        all.says("what is left of it then is its rest", TermsTest::restsOfAllPaths);
        tellOfLayersAndMounts(all);
        tellOfOverlays(all);
        tellOfTheOthers(all);
        return all;
    }

    private static void tellOfLayersAndMounts(Sentences all) {
        all.in("Layers");
        all.says("At most 6 layers are numbered from 0.", TermsTest::sixLayers);
        all.says("at each path other than the empty one, there can be a file", TermsTest::filesAtAllPaths);
        all.says("a link or a whiteout", TermsTest::linksAndWhiteoutsAtAllPaths);
        all.says("other than the empty one", TermsTest::nothingIsAtTheEmptyPath);
        all.says("A file has an owner from 0 to 3", TermsTest::ownersOfFiles);
        all.says("a size from 0 to 9999 bytes", TermsTest::sizesOfFiles);
        all.says("a link has an owner and a target, which is a path, and no bytes", TermsTest::linksHaveNoBytes);
        all.in("Mounts");
        all.says("At most 8 mounts are numbered from 0", TermsTest::eightMounts);
        all.says("in the order in which they were made", TermsTest::mountNumbersAreNotUsedAgain);
        all.says("a mount has a point, which is a path, a lower layer, and possibly an upper layer",
                TermsTest::mountsWithAndWithoutUpper);
        all.says("It is there until it is unmounted.", TermsTest::aMountStays);
        all.says("A layer can be the upper one of only one mount that is there", TermsTest::oneUpperOnly);
        all.says("and be in no other mount that is there then", TermsTest::anUpperOneIsInNoOther);
        all.says("lower layers can be in several mounts", TermsTest::lowerLayersAreShared);
        all.says("served by the mount made last of those that are there whose point the path begins with",
                TermsTest::theLastMountServes);
        all.says("in its layers, it is looked for by its rest", TermsTest::lookedForByRest);
    }

    private static void tellOfOverlays(Sentences all) {
        all.in("Overlays");
        all.says("A mount with an upper layer shows at a path what the upper layer has", TermsTest::theUpperShows);
        all.says("but nothing if that is a whiteout", TermsTest::anUpperWhiteoutShowsNothing);
        all.says("if the upper layer has nothing there, it shows what the lower one has", TermsTest::theLowerShows);
        all.says("A mount without one shows what its lower layer has.", TermsTest::aSingleLayerShows);
        all.says("A whiteout in a lower layer shows nothing.", TermsTest::aLowerWhiteoutShowsNothing);
        all.says("What is written goes into the upper layer", TermsTest::writingGoesIntoTheUpper);
        all.says("or, if there is none, into the lower one", TermsTest::writingGoesIntoTheLower);
        all.says("what a path shows is in the lower one, writing a file or making a link at the path is a copy upward",
                TermsTest::copiesUpward);
        all.says("and removing puts a whiteout into the upper layer", TermsTest::removingALowerOne);
        all.says("so does removing what is in the upper layer if the lower one has a file or a link there",
                TermsTest::removingAnUpperOne);
    }

    private static void tellOfTheOthers(Sentences all) {
        all.in("Links");
        all.says("A path that shows a link leads to its target, and so on over at most 4 links", TermsTest::fourLinks);
        all.says("it ends at the first path that does not show a link", TermsTest::theEndShowsNoLink);
        all.says("leads to a path that is served by another mount", TermsTest::linksToAnotherMount);
        all.says("or by none", TermsTest::linksToNoMount);
        all.says("only if the mount of the link is crossing", TermsTest::theMountOfTheLinkCounts);
        all.says("at first, a mount is not", TermsTest::noMountCrossesAtFirst);
        all.in("Quotas");
        all.says("An owner uses the bytes of all own files in all layers", TermsTest::allOwnFilesCount);
        all.says("whether they are shown or not", TermsTest::hiddenFilesCount);
        all.says("each file once", TermsTest::aFileShownTwiceIsUsedOnce);
        all.says("The quota of an owner is at first 20000.", TermsTest::theFirstQuota);
        all.in("Backups");
        all.says("At most 6 backups are numbered from 0.", TermsTest::sixBackups);
        all.says("A backup of what is seen has the size of each file that some path of 1 to 4 digits shows, by this path",
                TermsTest::seenByPath);
        all.says("one of what is there has that of each file of each layer, by its layer and its path in it",
                TermsTest::thereByLayerAndPath);
    }

    // ---- what it is

    private static void theLastCallHolds(Checks c) {
        MountTable x = Tables.sole();
        for (int turn = 0; turn < 254; turn++) {
            x.write(turn % 4, 4444, 9999);
            x.remove(4444);
        }
        c.due(77, "the 511th call", () -> x.write(2, 4443, 77));
        c.due(77, "the 512th call", () -> x.size(4443));
        MountTable looked = Tables.plain();
        looked.write(0, 13, 6);
        for (int call = 6; call < 511; call++) {
            looked.hidden();
        }
        c.due(1f, "the 512th call of one that was looked at", () -> looked.shownShare());
    }

    private static void theTopmostLayerShows(Checks c) {
        MountTable x = Tables.withLayers(6);
        for (int layer = 0; layer < 6; layer++) {
            x.mount(0, layer, -1);
            x.write(0, 12, layer);
            int due = layer;
            c.due(due, "the layer of the mount made last", () -> x.layerOf(12));
            c.due(due, "its size", () -> x.size(12));
        }
        for (int layer = 5; layer > 1; layer--) {
            x.unmount(layer);
            int due = layer - 1;
            c.due(due, "the layer below it", () -> x.layerOf(12));
        }
        x.unmount(1);
        x.mount(0, 0, 1);
        c.due(1, "the upper layer", () -> x.layerOf(12));
    }

    private static void bytesAreCountedOnce(Checks c) {
        MountTable x = Tables.withLayers(1);
        for (int point = 1; point <= 4; point++) {
            x.mount(point, 0, -1);
        }
        x.write(0, 31, 8);
        c.due(8, "used, though shown at four paths", () -> x.used(0));
        c.due(8, "used by layers", () -> x.usedByLayers(0));
        c.due(0, "hidden", () -> x.hidden());
        c.due(1f, "the share", () -> x.shownShare());
    }

    // ---- paths

    private static boolean isPath(int number) {
        return number == 0 || String.valueOf(number).matches("[1-4]{1,4}");
    }

    private static void numbersThatArePaths(Checks c) {
        for (int first = -5000; first < 50000; first += 500) {
            MountTable x = Tables.sole();
            for (int number = first; number < first + 500; number++) {
                int asked = number;
                c.due(isPath(number) ? 0 : Checks.ARGUMENT, "served of " + number, () -> x.served(asked));
            }
        }
        MountTable x = Tables.sole();
        for (int number : Tables.NO_PATHS) {
            c.due(Checks.ARGUMENT, "served of " + number, () -> x.served(number));
        }
        for (int path : PATHS) {
            c.due(0, "served of " + path, () -> x.served(path));
        }
    }

    private static void theEmptyPathIs0(Checks c) {
        MountTable x = Tables.withLayers(1);
        c.due(0, "mount at it", () -> x.mount(0, 0, -1));
        c.due(0, "served", () -> x.served(0));
        c.due('-', "shows", () -> x.shows(0));
        c.due(0, "end", () -> x.end(0));
        c.due(1, "link to it", () -> x.link(0, 1, 0));
        c.due(0, "the end of that", () -> x.end(1));
        c.due(0, "move to it", () -> x.move(0, 0));
        c.due(0, "move from it", () -> x.move(0, 1));
        c.due(Checks.ELEMENT, "not served any more", () -> x.served(0));
    }

    private static void beginnings(Checks c) {
        for (int point : PATHS) {
            MountTable x = Tables.withLayers(1);
            x.mount(point, 0, -1);
            for (int path : PATHS) {
                boolean begins = Tables.digits(path).startsWith(Tables.digits(point));
                c.due(begins ? 0 : Checks.ELEMENT, path + " behind " + point, () -> x.served(path));
            }
        }
    }

    /** A layer under the point 0 that has at each path a file whose size tells the path. */
    private static MountTable full() {
        MountTable table = Tables.sole();
        table.setQuota(0, 99999);
        for (int i = 1; i < PATHS.length; i++) {
            table.write(0, PATHS[i], i);
        }
        return table;
    }

    private static void restsOfAllPaths(Checks c) {
        for (int point : new int[] {1, 4, 23, 44, 123, 444, 1111, 4444}) {
            MountTable x = full();
            x.move(0, point);
            for (int i = 1; i < PATHS.length; i++) {
                int path = Tables.joined(point, PATHS[i]);
                int size = i;
                if (path >= 0) {
                    c.due(size, "the size of " + path + " behind " + point, () -> x.size(path));
                }
            }
            c.due('-', "the point " + point + " itself, with an empty rest", () -> x.shows(point));
        }
    }

    // ---- layers

    private static void sixLayers(Checks c) {
        MountTable x = new MountTable();
        for (int number = 0; number < 6; number++) {
            c.due(number, "layer", () -> x.addLayer());
        }
        c.due(Checks.STATE, "a seventh", () -> x.addLayer());
        c.due(0, "mount the first and the last", () -> x.mount(0, 0, 5));
        c.due(Checks.INDEX, "mount the seventh", () -> x.mount(0, 6, -1));
    }

    private static void filesAtAllPaths(Checks c) {
        for (int first = 1; first <= 3; first++) {
            MountTable x = full();
            for (int i = first; i < PATHS.length; i += 3) {
                int path = PATHS[i];
                int size = i;
                c.due(size, "the size of " + path, () -> x.sizeByWalking(path));
            }
            c.due(340 * 341 / 2, "the bytes of all", () -> x.usedByLayers(0));
        }
    }

    private static void linksAndWhiteoutsAtAllPaths(Checks c) {
        for (int half = 0; half < 2; half++) {
            MountTable x = Tables.withLayers(2);
            x.mount(0, 0, -1);
            int first = 1 + half * 170;
            for (int i = first; i < first + 170; i++) {
                int path = PATHS[i];
                int links = i - first + 1;
                c.due(links, "link at " + path, () -> x.link(0, path, 0));
            }
            x.mount(0, 0, 1);
            for (int i = first; i < first + 170; i++) {
                int path = PATHS[i];
                c.due(0, "remove " + path, () -> x.remove(path));
            }
            c.due(170, "whiteouts above", () -> x.whiteouts(1));
            c.due(0, "whiteouts below", () -> x.whiteouts(0));
        }
    }

    private static void nothingIsAtTheEmptyPath(Checks c) {
        for (int point : new int[] {0, 1, 44, 4444}) {
            MountTable x = Tables.withLayers(2);
            x.mount(point, 0, 1);
            c.due(Checks.ELEMENT, "write at the point " + point, () -> x.write(0, point, 1));
            c.due(Checks.ELEMENT, "link at the point " + point, () -> x.link(0, point, 1));
            c.due(Checks.ELEMENT, "remove the point " + point, () -> x.remove(point));
            c.due('-', "shows at the point " + point, () -> x.shows(point));
            c.due(0, "whiteouts", () -> x.whiteouts(1));
        }
    }

    private static void ownersOfFiles(Checks c) {
        MountTable x = Tables.sole();
        for (int owner = 0; owner <= 3; owner++) {
            int asked = owner;
            c.due(1, "write by " + owner, () -> x.write(asked, 11 + asked, 1));
            c.due(owner, "owner", () -> x.ownerOf(11 + asked));
        }
        for (int owner : Tables.NO_OWNERS) {
            c.due(Checks.ARGUMENT, "write by " + owner, () -> x.write(owner, 2, 1));
        }
    }

    private static void sizesOfFiles(Checks c) {
        MountTable x = Tables.sole();
        c.due(0, "the smallest", () -> x.write(0, 1, 0));
        c.due(0, "its size", () -> x.size(1));
        c.due(9999, "the largest", () -> x.write(0, 2, 9999));
        c.due(9999, "its size", () -> x.size(2));
        for (int size : new int[] {-1, -9999, 10000, 65536, Integer.MAX_VALUE, Integer.MIN_VALUE}) {
            c.due(Checks.ARGUMENT, "size " + size, () -> x.write(0, 3, size));
        }
        c.due('-', "none of these was written", () -> x.shows(3));
    }

    private static void linksHaveNoBytes(Checks c) {
        MountTable x = Tables.sole();
        for (int owner = 0; owner <= 3; owner++) {
            int asked = owner;
            x.setQuota(owner, 0);
            c.due(owner + 1, "link by " + owner, () -> x.link(asked, 11 + asked, 4444));
            c.due(owner, "its owner", () -> x.ownerOf(11 + asked));
            c.due(4444, "its target", () -> x.end(11 + asked));
            c.due(0, "used by " + owner, () -> x.used(asked));
            c.due(0, "used by layers", () -> x.usedByLayers(asked));
        }
        c.due(0, "hidden", () -> x.hidden());
        c.due(Checks.ARITHMETIC, "the share of no bytes", () -> x.shownShare());
        c.due(0, "the bytes of a removed one", () -> x.remove(14));
        c.due(Checks.ARGUMENT, "a target that is no path", () -> x.link(0, 2, 5));
    }

    // ---- mounts

    private static void eightMounts(Checks c) {
        MountTable x = Tables.withLayers(1);
        for (int number = 0; number < 8; number++) {
            c.due(number, "mount", () -> x.mount(0, 0, -1));
        }
        c.due(Checks.STATE, "a ninth", () -> x.mount(0, 0, -1));
        c.due(7, "the eighth serves", () -> x.served(1));
        c.due(Checks.INDEX, "there is no ninth", () -> x.unmount(8));
    }

    private static void mountNumbersAreNotUsedAgain(Checks c) {
        MountTable x = Tables.withLayers(1);
        for (int number = 0; number < 8; number++) {
            c.due(number, "mount", () -> x.mount(1, 0, -1));
            c.due(0, "unmount", () -> x.unmount(x.served(1)));
        }
        c.due(Checks.STATE, "a ninth, though none is there", () -> x.mount(1, 0, -1));
    }

    private static void mountsWithAndWithoutUpper(Checks c) {
        MountTable x = Tables.withLayers(3);
        c.due(0, "without", () -> x.mount(4444, 0, -1));
        c.due(1, "with", () -> x.mount(0, 1, 2));
        c.due(Checks.INDEX, "without a lower one", () -> x.mount(0, -1, 0));
        c.due(Checks.ARGUMENT, "at no path", () -> x.mount(5, 0, -1));
    }

    private static void aMountStays(Checks c) {
        MountTable x = Tables.withLayers(2);
        x.mount(3, 0, 1);
        x.move(0, 33);
        x.setCrossing(0, true);
        x.write(0, 331, 1);
        x.remove(331);
        c.due(0, "it serves after other calls", () -> x.served(33));
        c.due(Checks.OPERATION, "and keeps its upper layer", () -> x.mount(0, 0, 1));
        x.unmount(0);
        c.due(Checks.ELEMENT, "not after unmount", () -> x.served(33));
        c.due(1, "nor has it its upper layer", () -> x.mount(0, 0, 1));
    }

    private static void oneUpperOnly(Checks c) {
        MountTable x = Tables.withLayers(3);
        x.mount(1, 0, 2);
        c.due(Checks.OPERATION, "upper of another", () -> x.mount(2, 1, 2));
        c.due(Checks.OPERATION, "upper of another with the same lower one", () -> x.mount(2, 0, 2));
        x.move(0, 4444);
        c.due(Checks.OPERATION, "also when moved away", () -> x.mount(2, 1, 2));
        x.unmount(0);
        c.due(1, "when that is not there", () -> x.mount(2, 1, 2));
    }

    private static void anUpperOneIsInNoOther(Checks c) {
        MountTable x = Tables.withLayers(4);
        x.mount(1, 0, 2);
        c.due(Checks.OPERATION, "an upper one as lower", () -> x.mount(2, 2, -1));
        c.due(Checks.OPERATION, "an upper one under another", () -> x.mount(2, 2, 3));
        c.due(Checks.OPERATION, "a lower one as upper", () -> x.mount(2, 1, 0));
        c.due(1, "a lower one alone", () -> x.mount(2, 1, -1));
        c.due(Checks.OPERATION, "which is no upper one then", () -> x.mount(2, 0, 1));
        x.unmount(1);
        c.due(2, "but when that is gone", () -> x.mount(2, 0, 1));
    }

    private static void lowerLayersAreShared(Checks c) {
        MountTable x = Tables.withLayers(6);
        for (int upper = 1; upper < 6; upper++) {
            int asked = upper;
            c.due(upper - 1, "under each other layer", () -> x.mount(0, 0, asked));
        }
        for (int number = 5; number < 8; number++) {
            c.due(number, "and alone", () -> x.mount(0, 0, -1));
        }
    }

    private static void theLastMountServes(Checks c) {
        MountTable x = Tables.withLayers(1);
        int[] points = {0, 12, 1, 12, 123, 0, 1234, 2};
        for (int made = 0; made < points.length; made++) {
            x.mount(points[made], 0, -1);
        }
        x.unmount(5);
        int[] asked = {0, 1, 12, 123, 1234, 124, 2, 21, 3, 4444, 1111};
        int[] due = {0, 2, 3, 4, 6, 3, 7, 7, 0, 0, 2};
        for (int i = 0; i < asked.length; i++) {
            int path = asked[i];
            c.due(due[i], "served of " + path, () -> x.served(path));
        }
        x.unmount(3);
        c.due(2, "a shorter point, made later", () -> x.served(12));
        x.unmount(2);
        c.due(1, "a longer point, made earlier", () -> x.served(12));
    }

    private static void lookedForByRest(Checks c) {
        MountTable x = Tables.withLayers(2);
        x.mount(21, 0, 1);
        x.write(0, 2143, 6);
        c.due('-', "the whole path under the point", () -> x.shows(2121));
        x.move(0, 0);
        c.due(6, "the rest under the empty point", () -> x.size(43));
        c.due('-', "the whole path under the empty point", () -> x.shows(2143));
        x.move(0, 3);
        c.due(6, "the rest under another point", () -> x.size(343));
    }

    // ---- overlays

    private static final char[] KINDS = {'-', 'f', 'l', 'w'};

    private static boolean isThing(char kind) {
        return kind == 'f' || kind == 'l';
    }

    /** Layer 1 under layer 2 at the empty path, as Tables.pair fills them. */
    private static MountTable over(char lower, char upper) {
        MountTable table = Tables.pair(lower, upper);
        table.mount(0, 1, 2);
        return table;
    }

    private static String pairOf(char lower, char upper) {
        return "'" + upper + "' over '" + lower + "'";
    }

    /** Looks at path 2, where the thing of a layer is due, or nothing for layer -1. */
    private static void dueAtPath2(Checks c, MountTable x, String what, char kind, int layer) {
        boolean isThere = layer >= 0;
        c.due(isThere ? kind : '-', what + ", shows", () -> x.shows(2));
        c.due(isThere ? layer : Checks.ELEMENT, what + ", layerOf", () -> x.layerOf(2));
        c.due(isThere ? layer : Checks.ELEMENT, what + ", ownerOf", () -> x.ownerOf(2));
        c.due(isThere && kind == 'f' ? layer * 10 : -1, what + ", by walking", () -> x.sizeByWalking(2));
        c.due(isThere && kind == 'f' ? layer * 10 : Checks.ELEMENT, what + ", size", () -> x.size(2));
        c.due(isThere && kind == 'l' ? 4 : 2, what + ", end", () -> x.end(2));
    }

    private static void theUpperShows(Checks c) {
        for (char lower : KINDS) {
            dueAtPath2(c, over(lower, 'f'), pairOf(lower, 'f'), 'f', 2);
            dueAtPath2(c, over(lower, 'l'), pairOf(lower, 'l'), 'l', 2);
        }
    }

    private static void anUpperWhiteoutShowsNothing(Checks c) {
        for (char lower : KINDS) {
            dueAtPath2(c, over(lower, 'w'), pairOf(lower, 'w'), '-', -1);
        }
    }

    private static void theLowerShows(Checks c) {
        dueAtPath2(c, over('-', '-'), pairOf('-', '-'), '-', -1);
        dueAtPath2(c, over('f', '-'), pairOf('f', '-'), 'f', 1);
        dueAtPath2(c, over('l', '-'), pairOf('l', '-'), 'l', 1);
    }

    private static void aSingleLayerShows(Checks c) {
        for (char kind : new char[] {'-', 'f', 'l'}) {
            MountTable x = Tables.pair('f', kind);
            x.mount(0, 2, -1);
            dueAtPath2(c, x, "'" + kind + "' alone", kind, isThing(kind) ? 2 : -1);
        }
    }

    private static void aLowerWhiteoutShowsNothing(Checks c) {
        dueAtPath2(c, over('w', '-'), pairOf('w', '-'), '-', -1);
        MountTable alone = Tables.pair('w', '-');
        alone.mount(0, 1, -1);
        dueAtPath2(c, alone, "a whiteout alone", '-', -1);
    }

    private static void writingGoesIntoTheUpper(Checks c) {
        for (char lower : KINDS) {
            for (char upper : KINDS) {
                MountTable x = over(lower, upper);
                c.due(7, pairOf(lower, upper) + ", write", () -> x.write(3, 2, 7));
                c.due(2, pairOf(lower, upper) + ", its layer", () -> x.layerOf(2));
                MountTable linked = over(lower, upper);
                linked.link(3, 2, 4);
                c.due(2, pairOf(lower, upper) + ", the layer of a link", () -> linked.layerOf(2));
                linked.unmount(linked.served(0));
                linked.mount(0, 1, -1);
                c.due(isThing(lower) ? lower : '-', "the lower one is as it was", () -> linked.shows(2));
            }
        }
    }

    private static void writingGoesIntoTheLower(Checks c) {
        for (char kind : KINDS) {
            MountTable x = Tables.pair(kind, 'f');
            x.mount(0, 1, -1);
            c.due(7, "write over '" + kind + "'", () -> x.write(3, 2, 7));
            c.due(1, "its layer", () -> x.layerOf(2));
            c.due(0, "no whiteout is left", () -> x.whiteouts(1));
            x.link(3, 2, 4);
            c.due(1, "the layer of a link", () -> x.layerOf(2));
            c.due(0, "no copies", () -> x.copies());
        }
    }

    private static void copiesUpward(Checks c) {
        for (char lower : KINDS) {
            for (char upper : KINDS) {
                boolean isCopy = isThing(lower) && upper == '-';
                MountTable x = over(lower, upper);
                x.write(3, 2, 7);
                c.due(isCopy ? 1 : 0, pairOf(lower, upper) + ", copies by write", () -> x.copies());
                MountTable linked = over(lower, upper);
                linked.link(3, 2, 4);
                c.due(isCopy ? 1 : 0, pairOf(lower, upper) + ", copies by link", () -> linked.copies());
                linked.write(3, 2, 7);
                c.due(isCopy ? 1 : 0, "none by writing over that", () -> linked.copies());
            }
            MountTable alone = Tables.pair(lower, 'f');
            alone.mount(0, 1, -1);
            alone.write(3, 2, 7);
            alone.link(3, 2, 4);
            c.due(0, "none over '" + lower + "' without an upper layer", () -> alone.copies());
        }
    }

    private static void removingALowerOne(Checks c) {
        for (char lower : KINDS) {
            MountTable x = over(lower, '-');
            Object due = lower == 'f' ? 10 : lower == 'l' ? 0 : Checks.ELEMENT;
            c.due(due, "remove of '" + lower + "' below", () -> x.remove(2));
            c.due(isThing(lower) ? 1 : 0, "whiteouts above", () -> x.whiteouts(2));
            c.due(lower == 'w' ? 1 : 0, "whiteouts below", () -> x.whiteouts(1));
            c.due(lower == 'f' ? 10 : 0, "the lower one stays", () -> x.used(1));
            c.due('-', "shows", () -> x.shows(2));
            c.due(0, "copies", () -> x.copies());
        }
        MountTable alone = Tables.pair('f', '-');
        alone.mount(0, 1, -1);
        c.due(10, "remove without an upper layer", () -> alone.remove(2));
        c.due(0, "needs no whiteout", () -> alone.whiteouts(1));
        c.due(0, "nor keeps the file", () -> alone.used(1));
    }

    private static void removingAnUpperOne(Checks c) {
        for (char lower : KINDS) {
            for (char upper : new char[] {'f', 'l'}) {
                MountTable x = over(lower, upper);
                c.due(upper == 'f' ? 20 : 0, pairOf(lower, upper) + ", remove", () -> x.remove(2));
                c.due(isThing(lower) ? 1 : 0, pairOf(lower, upper) + ", whiteouts", () -> x.whiteouts(2));
                c.due('-', pairOf(lower, upper) + ", shows", () -> x.shows(2));
                c.due(0, pairOf(lower, upper) + ", the upper bytes are free", () -> x.used(2));
            }
            MountTable covered = over(lower, 'w');
            c.due(Checks.ELEMENT, pairOf(lower, 'w') + ", remove", () -> covered.remove(2));
            c.due(1, pairOf(lower, 'w') + ", the whiteout stays", () -> covered.whiteouts(2));
        }
    }

    // ---- links

    /** Links 1 to 11, 11 to 111, 111 to 1111, 1111 to 2, and 2 to 22, as many as asked. */
    private static MountTable chain(int links) {
        int[] stations = {1, 11, 111, 1111, 2, 22, 222};
        MountTable table = Tables.sole();
        for (int i = 0; i < links; i++) {
            table.link(0, stations[i], stations[i + 1]);
        }
        return table;
    }

    private static void fourLinks(Checks c) {
        IntUnaryOperator due = links -> new int[] {1, 11, 111, 1111, 2}[links];
        for (int links = 0; links <= 4; links++) {
            int asked = links;
            c.due(due.applyAsInt(links), links + " links", () -> chain(asked).end(1));
        }
        c.due(Checks.STATE, "5 links", () -> chain(5).end(1));
        c.due(Checks.STATE, "6 links", () -> chain(6).end(1));
        c.due(22, "the last 4 of 5", () -> chain(5).end(11));
    }

    private static void theEndShowsNoLink(Checks c) {
        MountTable x = chain(3);
        c.due(1111, "nothing", () -> x.end(1));
        x.write(0, 1111, 3);
        c.due(1111, "a file", () -> x.end(1));
        x.write(0, 11, 3);
        c.due(11, "a file on the way", () -> x.end(1));
        x.remove(11);
        c.due(11, "a gap on the way", () -> x.end(1));
        c.due(4444, "a path without a link", () -> x.end(4444));
    }

    private static void linksToAnotherMount(Checks c) {
        MountTable x = Tables.plain();
        x.link(0, 2, 13);
        x.link(0, 3, 23);
        c.due(Checks.OPERATION, "into another mount", () -> x.end(2));
        c.due(23, "in the same mount", () -> x.end(3));
        x.mount(2, 0, -1);
        c.due(Checks.OPERATION, "into another mount of the same layer", () -> x.end(3));
        x.unmount(2);
        x.unmount(1);
        c.due(13, "when the other is gone", () -> x.end(2));
    }

    private static void linksToNoMount(Checks c) {
        MountTable x = Tables.withLayers(1);
        x.mount(1, 0, -1);
        x.link(0, 12, 2);
        x.link(0, 13, 0);
        x.link(0, 14, 1);
        c.due(Checks.OPERATION, "where none serves", () -> x.end(12));
        c.due(Checks.OPERATION, "above the point", () -> x.end(13));
        c.due(1, "the point itself", () -> x.end(14));
        x.setCrossing(0, true);
        c.due(2, "where none serves, crossing", () -> x.end(12));
        c.due(0, "above the point, crossing", () -> x.end(13));
    }

    private static void theMountOfTheLinkCounts(Checks c) {
        MountTable x = Tables.plain();
        x.link(0, 2, 13);
        x.setCrossing(1, true);
        c.due(Checks.OPERATION, "the other is crossing", () -> x.end(2));
        x.setCrossing(0, true);
        x.setCrossing(1, false);
        c.due(13, "the own is crossing", () -> x.end(2));
        x.link(0, 13, 3);
        c.due(Checks.OPERATION, "each link asks its own mount", () -> x.end(2));
        x.setCrossing(1, true);
        c.due(3, "both are crossing", () -> x.end(2));
        x.setCrossing(0, false);
        c.due(Checks.OPERATION, "no more", () -> x.end(2));
    }

    private static void noMountCrossesAtFirst(Checks c) {
        MountTable x = Tables.withLayers(1);
        for (int number = 0; number < 8; number++) {
            int asked = number;
            x.mount(0, 0, -1);
            c.due(false, "mount " + number, () -> x.setCrossing(asked, true));
        }
    }

    // ---- quotas

    private static void allOwnFilesCount(Checks c) {
        MountTable x = Tables.withLayers(6);
        for (int layer = 0; layer < 6; layer++) {
            int mount = x.mount(0, layer, -1);
            x.write(1, 11, 1 << layer);
            x.write(2, 4444, 100 << layer);
            x.link(1, 2, 3);
            x.unmount(mount);
        }
        c.due(63, "used in six layers", () -> x.used(1));
        c.due(63, "by layers", () -> x.usedByLayers(1));
        c.due(6300, "used by another", () -> x.used(2));
        c.due(6300, "by layers by another", () -> x.usedByLayers(2));
        c.due(0, "used by one without files", () -> x.used(3));
    }

    private static void hiddenFilesCount(Checks c) {
        MountTable x = Tables.overlay();
        x.remove(2);
        c.due(7, "under a whiteout", () -> x.used(3));
        x.write(3, 2, 1);
        c.due(8, "under a copy", () -> x.used(3));
        c.due(8, "by layers", () -> x.usedByLayers(3));
        x.move(0, 4444);
        x.move(1, 4444);
        c.due(8, "too deep", () -> x.used(3));
        x.unmount(0);
        x.unmount(1);
        c.due(8, "without mounts", () -> x.used(3));
        c.due(8, "by layers, without mounts", () -> x.usedByLayers(3));
        c.due(8, "which is all hidden", () -> x.hidden());
    }

    private static void aFileShownTwiceIsUsedOnce(Checks c) {
        MountTable x = Tables.withLayers(3);
        x.mount(1, 0, -1);
        x.mount(2, 0, 1);
        x.mount(3, 0, 2);
        c.due(9, "write at one of three paths", () -> x.write(0, 14, 9));
        c.due(9, "by layers", () -> x.usedByLayers(0));
        c.due(9, "shown at another", () -> x.size(24));
        c.due(9, "shown at a third", () -> x.size(34));
    }

    private static void theFirstQuota(Checks c) {
        for (int owner = 0; owner < 4; owner++) {
            int asked = owner;
            MountTable x = Tables.sole();
            x.write(owner, 1, 9999);
            x.write(owner, 2, 9999);
            c.due(Checks.OPERATION, "20001 bytes of " + owner, () -> x.write(asked, 3, 3));
            c.due(20000, "20000 bytes of " + owner, () -> x.write(asked, 3, 2));
            c.due(20000, "the quota of " + owner, () -> x.setQuota(asked, 0));
        }
    }

    // ---- backups

    private static void sixBackups(Checks c) {
        MountTable x = Tables.sole();
        for (int number = 0; number < 6; number++) {
            boolean isOfSeen = number % 2 == 1;
            c.due(number, "backup", () -> x.backUp(isOfSeen));
        }
        c.due(Checks.STATE, "a seventh", () -> x.backUp(true));
        c.due(0, "the sixth is there", () -> x.bytes(5));
    }

    private static void seenByPath(Checks c) {
        MountTable x = full();
        x.backUp(true);
        c.due(340 * 341 / 2, "all 340 paths", () -> x.bytes(0));
        x.move(0, 4);
        c.due(84 * 85 / 2, "the 84 with a digit less", () -> seenNow(x));
        c.due(340, "each differs then", () -> x.differences(0));
        x.move(0, 4444);
        c.due(0, "none behind four digits", () -> seenNow(x));
        c.due(340, "each is gone then", () -> x.differences(0));
        x.move(0, 0);
        c.due(0, "none differs when all is back", () -> x.differences(0));
        MountTable first = Tables.sole();
        first.write(0, 1111, 9);
        first.move(0, 1);
        c.due(0, "none of five digits", () -> seenNow(first));
    }

    private static int seenNow(MountTable table) {
        return table.bytes(table.backUp(true));
    }

    private static void thereByLayerAndPath(Checks c) {
        MountTable x = Tables.overlay();
        x.backUp(false);
        x.write(3, 2, 7);
        x.unmount(1);
        x.remove(2);
        c.due(2, "the same path in another layer is another place", () -> x.differences(0));
        x.write(0, 2, 7);
        x.backUp(false);
        c.due(14, "each layer has its own", () -> x.bytes(1));
        x.write(0, 22, 7);
        c.due(1, "another path is another place", () -> x.differences(1));
    }
}
