/** Promises 9 to 17: files and links. */
public final class FilesAndLinksTest {
    private static final String ARGUMENT = "throws.IllegalArgumentException";
    private static final String ELEMENT = "throws.NoSuchElementException";
    private static final String OPERATION = "throws.UnsupportedOperationException";
    private static final String STATE = "throws.IllegalStateException";

    private static final int[] NO_PATHS = {-1, 5, 10, 101, 1045, 11111, Integer.MIN_VALUE, Integer.MAX_VALUE};

    private static final Checks CHECKS = new Checks();

    public static void main(String[] args) {
        aFileIsWritten();
        writeChecksItsNumbers();
        writeWantsAServedPath();
        writeKeepsTheQuota();
        writeTakesTheOldBytesAway();
        theFirstExceptionOfWriteCounts();
        writingGoesUpward();
        writingOverAWhiteoutIsNoCopy();
        writingOnALowerLayerIsSeenThroughOthers();
        linksAreMade();
        linkChecksItsNumbers();
        linksAreCopiedUpward();
        removingInASingleLayer();
        removingInAnOverlay();
        removingOverALowerWhiteout();
        removeChecksItsPath();
        lookersCheckTheirPaths();
        layersOfPaths();
        ownersOfPaths();
        linksLeadOn();
        linksCrossByRule();
        fourLinksAndNoMore();
        aFifthLinkThatDoesNotCross();
        sizesAtTheEnd();
        sizesByWalking();
        CHECKS.end();
    }

    private static void due(Object want, String what, Checks.Call call) {
        CHECKS.due(want, what, call);
    }

    /** A table whose layers are 0 to 2, mounted: 0 at 0; at 1 layer 1 under layer 2. */
    private static MountTable plain() {
        MountTable table = new MountTable();
        table.addLayer();
        table.addLayer();
        table.addLayer();
        table.mount(0, 0, -1);
        table.mount(1, 1, 2);
        return table;
    }

    /** A table in which layer 0 holds the file 2 of owner 3 with 7 bytes, under layer 1. */
    private static MountTable overlay() {
        MountTable table = new MountTable();
        table.addLayer();
        table.addLayer();
        table.mount(0, 0, -1);
        table.write(3, 2, 7);
        table.mount(0, 0, 1);
        return table;
    }

    private static void aFileIsWritten() {
        MountTable x = plain();
        due(10, "write", () -> x.write(0, 2, 10));
        due(15, "write another", () -> x.write(0, 3111, 5));
        due(9999, "the largest", () -> x.write(1, 13, 9999));
        due(9999, "the smallest", () -> x.write(1, 14, 0));
        due('f', "shows", () -> x.shows(2));
        due('f', "an empty file is a file", () -> x.shows(14));
        due('-', "a longer path", () -> x.shows(21));
        due('-', "a shorter path", () -> x.shows(311));
        due(10, "size", () -> x.size(2));
        due(0, "size 0", () -> x.size(14));
    }

    private static void writeChecksItsNumbers() {
        MountTable x = plain();
        due(ARGUMENT, "owner -1", () -> x.write(-1, 2, 1));
        due(ARGUMENT, "owner 4", () -> x.write(4, 2, 1));
        due(ARGUMENT, "size -1", () -> x.write(0, 2, -1));
        due(ARGUMENT, "size 10000", () -> x.write(0, 2, 10000));
        for (int path : NO_PATHS) {
            due(ARGUMENT, "write at " + path, () -> x.write(0, path, 1));
        }
        due('-', "nothing was written", () -> x.shows(2));
        due(0, "nothing is used", () -> x.used(0));
    }

    private static void writeWantsAServedPath() {
        MountTable x = plain();
        due(ELEMENT, "the empty path", () -> x.write(0, 0, 1));
        due(ELEMENT, "the point of the mount that serves", () -> x.write(0, 1, 1));
        x.unmount(0);
        due(ELEMENT, "a path that none serves", () -> x.write(0, 2, 1));
        due(1, "a path behind the point", () -> x.write(0, 11, 1));
        due(0, "nothing was written without a mount", () -> x.used(1));
    }

    private static void writeKeepsTheQuota() {
        MountTable x = plain();
        x.setQuota(2, 100);
        due(100, "just the quota", () -> x.write(2, 2, 100));
        due(OPERATION, "one more", () -> x.write(2, 3, 1));
        due('-', "was not written", () -> x.shows(3));
        due(100, "an empty file goes", () -> x.write(2, 3, 0));
        due(OPERATION, "one more in place", () -> x.write(2, 2, 101));
        due(100, "it kept its size", () -> x.size(2));
        x.setQuota(2, 40);
        due(OPERATION, "still too much, though less", () -> x.write(2, 2, 41));
        due(OPERATION, "an empty one, while over the quota", () -> x.write(2, 4, 0));
        due(40, "enough less", () -> x.write(2, 2, 40));
        due(20000, "another owner has an own quota", () -> writeTwice(x));
        due(OPERATION, "the first quota is 20000", () -> x.write(0, 23, 1));
    }

    private static int writeTwice(MountTable table) {
        table.write(0, 21, 9999);
        table.write(0, 22, 9999);
        return table.write(0, 24, 2);
    }

    private static void writeTakesTheOldBytesAway() {
        MountTable x = plain();
        x.write(0, 2, 100);
        due(60, "in place of an own file", () -> x.write(0, 2, 60));
        due(5, "in place of another's file", () -> x.write(1, 2, 5));
        due(0, "whose bytes are free", () -> x.used(0));
        x.link(1, 2, 3);
        due(0, "a link has no bytes", () -> x.used(1));
        due(9, "in place of a link", () -> x.write(1, 2, 9));
        due('f', "a file then", () -> x.shows(2));
    }

    private static void theFirstExceptionOfWriteCounts() {
        MountTable x = plain();
        x.setQuota(0, 0);
        due(ARGUMENT, "size before rest and quota", () -> x.write(0, 1, 10000));
        due(ARGUMENT, "owner before rest", () -> x.write(4, 1, 1));
        due(ELEMENT, "rest before quota", () -> x.write(0, 1, 1));
        due(OPERATION, "quota", () -> x.write(0, 2, 1));
    }

    private static void writingGoesUpward() {
        MountTable x = overlay();
        due(0, "layer before", () -> x.layerOf(2));
        due(5, "write over the lower file", () -> x.write(0, 2, 5));
        due(1, "a copy", () -> x.copies());
        due(1, "layer after", () -> x.layerOf(2));
        due(7, "the lower one keeps its bytes", () -> x.used(3));
        due(6, "write over the upper file", () -> x.write(0, 2, 6));
        due(1, "no copy", () -> x.copies());
        due(9, "write where nothing is", () -> x.write(0, 3, 3));
        due(1, "no copy there", () -> x.copies());
        due(1, "it is in the upper layer", () -> x.layerOf(3));
        x.unmount(1);
        due(0, "below", () -> x.layerOf(2));
        due(7, "the lower file is as it was", () -> x.size(2));
        due('-', "the other is not below", () -> x.shows(3));
        due(8, "writing without an upper layer", () -> x.write(3, 2, 8));
        due(1, "is no copy", () -> x.copies());
    }

    private static void writingOverAWhiteoutIsNoCopy() {
        MountTable x = overlay();
        x.remove(2);
        due(1, "a whiteout", () -> x.whiteouts(1));
        due(4, "write over it", () -> x.write(0, 2, 4));
        due(0, "no copy, as nothing was shown", () -> x.copies());
        due(0, "no whiteout", () -> x.whiteouts(1));
        due(1, "in the upper layer", () -> x.layerOf(2));
    }

    private static void writingOnALowerLayerIsSeenThroughOthers() {
        MountTable x = new MountTable();
        x.addLayer();
        x.addLayer();
        x.mount(1, 0, -1);
        x.mount(2, 0, 1);
        x.mount(33, 0, -1);
        x.write(0, 12, 4);
        due(4, "through an overlay", () -> x.size(22));
        due(4, "through a third", () -> x.size(332));
        due(0, "is hidden nowhere", () -> x.hidden());
        due(4, "and has its bytes once", () -> x.used(0));
        x.write(1, 22, 9);
        due(4, "the lower one below", () -> x.size(12));
        due(9, "the upper one above", () -> x.size(22));
    }

    private static void linksAreMade() {
        MountTable x = plain();
        due(1, "first", () -> x.link(0, 2, 3));
        due(2, "in another layer", () -> x.link(0, 12, 3));
        due(2, "in place of a link", () -> x.link(1, 2, 4));
        due('l', "shows", () -> x.shows(2));
        due(1, "its owner", () -> x.ownerOf(2));
        due(4, "its target", () -> x.end(2));
        due(3, "to the empty path", () -> x.link(0, 3, 0));
        due(0, "which is its end", () -> x.end(3));
        x.write(0, 4, 50);
        due(4, "in place of a file", () -> x.link(1, 4, 2));
        due(0, "whose bytes are free", () -> x.used(0));
        x.write(0, 4, 1);
        due(4, "a link less by writing", () -> x.link(0, 31, 4));
        x.remove(31);
        due(4, "a link less by removing", () -> x.link(0, 32, 4));
        x.setQuota(3, 0);
        due(5, "no quota for links", () -> x.link(3, 33, 33));
    }

    private static void linkChecksItsNumbers() {
        MountTable x = plain();
        due(ARGUMENT, "owner -1", () -> x.link(-1, 2, 3));
        due(ARGUMENT, "owner 4", () -> x.link(4, 2, 3));
        for (int path : NO_PATHS) {
            due(ARGUMENT, "link at " + path, () -> x.link(0, path, 2));
            due(ARGUMENT, "link to " + path, () -> x.link(0, 2, path));
            due(ARGUMENT, "to no path before an empty rest", () -> x.link(0, 1, path));
        }
        due(ELEMENT, "the empty path", () -> x.link(0, 0, 2));
        due(ELEMENT, "an empty rest", () -> x.link(0, 1, 2));
        x.unmount(0);
        due(ELEMENT, "none serves", () -> x.link(0, 2, 3));
        due(1, "none was made by these", () -> x.link(0, 12, 3));
    }

    private static void linksAreCopiedUpward() {
        MountTable x = overlay();
        x.unmount(1);
        x.link(0, 3, 4);
        x.mount(0, 0, 1);
        due(2, "over a lower link, which stays", () -> x.link(0, 3, 1));
        due(1, "a copy", () -> x.copies());
        due(3, "over a lower file", () -> x.link(0, 2, 1));
        due(2, "a copy too", () -> x.copies());
        due(3, "over an upper link", () -> x.link(0, 2, 1));
        due(4, "over nothing", () -> x.link(0, 4, 1));
        due(2, "no copies", () -> x.copies());
        due(7, "the lower file stays", () -> x.used(3));
    }

    private static void removingInASingleLayer() {
        MountTable x = plain();
        x.write(0, 2, 10);
        x.link(0, 3, 2);
        due(10, "a file", () -> x.remove(2));
        due(0, "its bytes are free", () -> x.used(0));
        due('-', "shows nothing", () -> x.shows(2));
        due(0, "a link, not its target", () -> x.remove(3));
        due('-', "no link", () -> x.shows(3));
        due(0, "no whiteout", () -> x.whiteouts(0));
        due(ELEMENT, "again", () -> x.remove(2));
    }

    private static void removingInAnOverlay() {
        MountTable x = overlay();
        due(7, "a lower file", () -> x.remove(2));
        due(1, "a whiteout above", () -> x.whiteouts(1));
        due(0, "none below", () -> x.whiteouts(0));
        due(7, "its bytes are still used", () -> x.used(3));
        due('-', "shows nothing", () -> x.shows(2));
        due(ELEMENT, "again", () -> x.remove(2));
        x.write(0, 2, 4);
        due(4, "an upper file over a lower one", () -> x.remove(2));
        due(1, "a whiteout again", () -> x.whiteouts(1));
        due('-', "the lower one does not show", () -> x.shows(2));
        due(0, "the upper bytes are free", () -> x.used(0));
        x.link(0, 2, 2);
        due(0, "an upper link over a lower file", () -> x.remove(2));
        due(1, "a whiteout once more", () -> x.whiteouts(1));
        x.write(0, 3, 5);
        due(5, "an upper file over nothing", () -> x.remove(3));
        due(1, "no whiteout for it", () -> x.whiteouts(1));
        due(0, "no copies by all this", () -> x.copies());
        x.unmount(1);
        due(7, "below it is there", () -> x.remove(2));
        due(0, "and used no more", () -> x.used(3));
    }

    private static void removingOverALowerWhiteout() {
        MountTable x = overlay();
        x.addLayer();
        x.remove(2);
        x.unmount(1);
        x.mount(0, 1, 2);
        due('-', "a lower whiteout shows nothing", () -> x.shows(2));
        due(5, "write over it", () -> x.write(0, 2, 5));
        due(0, "is no copy", () -> x.copies());
        due(1, "and leaves it", () -> x.whiteouts(1));
        due(5, "remove over it", () -> x.remove(2));
        due(0, "needs no whiteout", () -> x.whiteouts(2));
        due('-', "shows nothing still", () -> x.shows(2));
        x.unmount(2);
        x.mount(0, 1, -1);
        due('-', "a whiteout alone shows nothing", () -> x.shows(2));
        due(ELEMENT, "and is not removed", () -> x.remove(2));
        due(6, "but written over", () -> x.write(0, 2, 6));
        due(0, "and gone then", () -> x.whiteouts(1));
    }

    private static void removeChecksItsPath() {
        MountTable x = plain();
        for (int path : NO_PATHS) {
            due(ARGUMENT, "remove " + path, () -> x.remove(path));
        }
        due(ELEMENT, "the empty path", () -> x.remove(0));
        due(ELEMENT, "an empty rest", () -> x.remove(1));
        due(ELEMENT, "nothing", () -> x.remove(4));
        x.unmount(0);
        due(ELEMENT, "not served", () -> x.remove(4));
    }

    private static void lookersCheckTheirPaths() {
        MountTable x = plain();
        for (int path : NO_PATHS) {
            due(ARGUMENT, "shows " + path, () -> x.shows(path));
            due(ARGUMENT, "layerOf " + path, () -> x.layerOf(path));
            due(ARGUMENT, "end " + path, () -> x.end(path));
            due(ARGUMENT, "size " + path, () -> x.size(path));
            due(ARGUMENT, "sizeByWalking " + path, () -> x.sizeByWalking(path));
            due(ARGUMENT, "ownerOf " + path, () -> x.ownerOf(path));
        }
        x.unmount(0);
        for (int path : new int[] {0, 1, 2, 12, 4444}) {
            due('-', "shows " + path, () -> x.shows(path));
            due(ELEMENT, "layerOf " + path, () -> x.layerOf(path));
            due(path, "end " + path, () -> x.end(path));
            due(ELEMENT, "size " + path, () -> x.size(path));
            due(-1, "sizeByWalking " + path, () -> x.sizeByWalking(path));
            due(ELEMENT, "ownerOf " + path, () -> x.ownerOf(path));
        }
    }

    private static void layersOfPaths() {
        MountTable x = plain();
        x.write(0, 2, 1);
        x.write(0, 12, 1);
        x.link(0, 3, 12);
        due(0, "lower", () -> x.layerOf(2));
        due(2, "upper", () -> x.layerOf(12));
        due(0, "of a link, not its target", () -> x.layerOf(3));
        x.remove(12);
        due(ELEMENT, "removed", () -> x.layerOf(12));
    }

    private static void ownersOfPaths() {
        MountTable x = overlay();
        due(3, "below", () -> x.ownerOf(2));
        x.write(1, 2, 1);
        due(1, "above", () -> x.ownerOf(2));
        x.link(2, 4, 2);
        due(2, "of a link, not its target", () -> x.ownerOf(4));
        x.remove(2);
        due(ELEMENT, "of a whiteout", () -> x.ownerOf(2));
    }

    private static void linksLeadOn() {
        MountTable x = plain();
        x.write(0, 2, 6);
        x.link(0, 3, 2);
        x.link(0, 4, 3);
        x.link(0, 31, 333);
        due(2, "a file ends at itself", () -> x.end(2));
        due(2, "one link", () -> x.end(3));
        due(2, "two links", () -> x.end(4));
        due(333, "at nothing", () -> x.end(31));
        due(44, "nothing ends at itself", () -> x.end(44));
        due(6, "size behind two links", () -> x.size(4));
        due(ELEMENT, "size behind a link to nothing", () -> x.size(31));
        due(-1, "no following by walking", () -> x.sizeByWalking(4));
    }

    private static void linksCrossByRule() {
        MountTable x = plain();
        x.write(0, 12, 3);
        x.link(0, 2, 12);
        due(OPERATION, "into another mount", () -> x.end(2));
        due(OPERATION, "its size", () -> x.size(2));
        x.setCrossing(1, true);
        due(OPERATION, "the other's leave is none", () -> x.end(2));
        x.setCrossing(0, true);
        due(12, "crossing", () -> x.end(2));
        due(3, "its size then", () -> x.size(2));
        x.setCrossing(1, false);
        due(12, "only the link's mount counts", () -> x.end(2));
        x.link(0, 13, 2);
        due(OPERATION, "the second link counts for itself", () -> x.end(13));
        x.link(0, 3, 13);
        due(OPERATION, "the second link does not lead on", () -> x.end(3));
        x.unmount(0);
        due(OPERATION, "to a path that none serves", () -> x.end(13));
        x.setCrossing(1, true);
        due(2, "crossing to it", () -> x.end(13));
        due(ELEMENT, "nothing is there", () -> x.size(13));
        x.setCrossing(1, false);
        x.link(0, 14, 1);
        due(1, "to the own point", () -> x.end(14));
    }

    private static void fourLinksAndNoMore() {
        MountTable x = plain();
        x.write(0, 44, 8);
        x.link(0, 43, 44);
        x.link(0, 42, 43);
        x.link(0, 41, 42);
        x.link(0, 4, 41);
        due(44, "four", () -> x.end(4));
        due(8, "size behind four", () -> x.size(4));
        x.link(0, 3, 4);
        due(STATE, "five", () -> x.end(3));
        due(STATE, "size behind five", () -> x.size(3));
        x.link(0, 22, 22);
        due(STATE, "a ring", () -> x.end(22));
        due(STATE, "size in a ring", () -> x.size(22));
        x.remove(44);
        due(44, "four to nothing", () -> x.end(4));
    }

    private static void aFifthLinkThatDoesNotCross() {
        MountTable x = plain();
        x.link(0, 43, 12);
        x.link(0, 42, 43);
        x.link(0, 41, 42);
        x.link(0, 4, 41);
        x.link(0, 3, 4);
        due(OPERATION, "a fifth", () -> x.end(3));
        due(OPERATION, "its size", () -> x.size(3));
        x.link(0, 33, 3);
        due(STATE, "a sixth is not reached", () -> x.end(33));
        x.setCrossing(0, true);
        due(STATE, "a fifth that crosses", () -> x.end(3));
        due(12, "a fourth that crosses", () -> x.end(4));
    }

    private static void sizesAtTheEnd() {
        MountTable x = plain();
        x.write(0, 2, 11);
        due(11, "a file", () -> x.size(2));
        due(ELEMENT, "nothing", () -> x.size(3));
        due(ELEMENT, "the empty path", () -> x.size(0));
        x.remove(2);
        due(ELEMENT, "removed", () -> x.size(2));
    }

    private static void sizesByWalking() {
        MountTable sole = plain();
        sole.write(0, 2, 3);
        due(3, "by the first mount", () -> sole.sizeByWalking(2));
        MountTable x = overlay();
        due(7, "below", () -> x.sizeByWalking(2));
        x.write(0, 2, 0);
        due(0, "above, empty", () -> x.sizeByWalking(2));
        x.remove(2);
        due(-1, "a whiteout", () -> x.sizeByWalking(2));
        x.link(0, 2, 3);
        due(-1, "a link", () -> x.sizeByWalking(2));
        due(-1, "the empty path", () -> x.sizeByWalking(0));
        x.write(0, 3412, 4);
        due(4, "four digits", () -> x.sizeByWalking(3412));
        x.addLayer();
        x.mount(34, 2, -1);
        due(-1, "a later mount hides", () -> x.sizeByWalking(3412));
        x.write(0, 3412, 6);
        due(6, "and shows its own", () -> x.sizeByWalking(3412));
        x.unmount(2);
        due(4, "until it is gone", () -> x.sizeByWalking(3412));
    }
}
