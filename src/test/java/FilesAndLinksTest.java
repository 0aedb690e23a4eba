/** Promises 9 to 13 and 16 to 17, sentence by sentence: files, links and what paths show. */
public final class FilesAndLinksTest {
    private static final int[] SOME_PATHS = {1, 4, 11, 44, 111, 444, 1111, 4444, 1234, 4321};

    public static void main(String[] args) {
        sentences().run(args);
    }

    static Sentences sentences() {
        Sentences all = new Sentences();
        tellOfWrite(all);
        tellOfLink(all);
        tellOfRemove(all);
        tellOfLookers(all);
        return all;
    }

    private static void tellOfWrite(Sentences all) {
        all.in("Promise 9:");
        all.says("Writes a file", FilesAndLinksTest::aFileIsWritten);
        all.says("in place of what the path shows", FilesAndLinksTest::aFileTakesThePlace);
        all.says("`owner`: its owner, 0 to 3", FilesAndLinksTest::ownersOfFiles);
        all.says("`path`: the path", FilesAndLinksTest::writeFromShortestToLongest);
        all.says("`size`: its size, 0 to 9999", FilesAndLinksTest::sizesOfFiles);
        all.says("Returns the bytes that the owner uses then.", FilesAndLinksTest::writeTellsWhatIsUsed);
        all.says("if a number is out of range", FilesAndLinksTest::writeChecksItsNumbers);
        all.says("or it is no path", FilesAndLinksTest::writeWantsAPath);
        all.says("if no mount serves the path", FilesAndLinksTest::writeWantsAMount);
        all.says("or its rest is empty", FilesAndLinksTest::writeWantsARest);
        all.says("if the owner would use more than the quota", FilesAndLinksTest::writeKeepsTheQuota);
        all.says("if the owner would use more than the quota", FilesAndLinksTest::theOldBytesAreTakenAway);
        all.says("if the owner would use more than the quota", FilesAndLinksTest::theOldBytesOfOthersStay);
        all.says("if the owner would use more than the quota", FilesAndLinksTest::ownersOverTheQuota);
    }

    private static void tellOfLink(Sentences all) {
        all.in("Promise 10:");
        all.says("Makes a link", FilesAndLinksTest::aLinkIsMade);
        all.says("in place of what the path shows", FilesAndLinksTest::aLinkTakesThePlace);
        all.says("`owner`: its owner, 0 to 3", FilesAndLinksTest::ownersOfLinks);
        all.says("`path`: the path", FilesAndLinksTest::linkFromShortestToLongest);
        all.says("`target`: its target", FilesAndLinksTest::targetsFromShortestToLongest);
        all.says("Returns the number of links in all layers.", FilesAndLinksTest::linksAreCounted);
        all.says("if the owner is out of range", FilesAndLinksTest::linkChecksItsOwner);
        all.says("or the path", FilesAndLinksTest::linkWantsAPath);
        all.says("or the target is no path", FilesAndLinksTest::linkWantsATarget);
        all.says("if no mount serves the path", FilesAndLinksTest::linkWantsAMount);
        all.says("or its rest is empty", FilesAndLinksTest::linkWantsARest);
    }

    private static void tellOfRemove(Sentences all) {
        all.in("Promise 11:");
        all.says("Removes what a path shows", FilesAndLinksTest::aFileIsRemoved);
        all.says("without following links", FilesAndLinksTest::aLinkIsRemovedAlone);
        all.says("`path`: the path", FilesAndLinksTest::removeFromShortestToLongest);
        all.says("Returns the bytes of it", FilesAndLinksTest::removeTellsTheBytes);
        all.says("0 for a link", FilesAndLinksTest::aRemovedLinkHasNoBytes);
        all.says("if it is no path", FilesAndLinksTest::removeWantsAPath);
        all.says("if it shows nothing", FilesAndLinksTest::removeWantsSomething);
    }

    private static void tellOfLookers(Sentences all) {
        all.in("Promise 12:");
        all.says("Returns what a path shows", FilesAndLinksTest::kindsAreTold);
        all.says("without following links", FilesAndLinksTest::showsTheLinkItself);
        all.says("`path`: the path", c -> fromShortestToLongest(c, 'f', MountTable::shows));
        all.says("'f' a file, 'l' a link, '-' nothing", FilesAndLinksTest::nothingIsADash);
        all.says("if it is no path", c -> wantsAPath(c, MountTable::shows));
        all.in("Promise 13:");
        all.says("Returns the layer of what a path shows", FilesAndLinksTest::layersAreTold);
        all.says("without following links", FilesAndLinksTest::theLayerOfTheLinkItself);
        all.says("`path`: the path", c -> fromShortestToLongest(c, 0, MountTable::layerOf));
        all.says("Returns the number of the layer.", FilesAndLinksTest::eachLayerIsTold);
        all.says("if it is no path", c -> wantsAPath(c, MountTable::layerOf));
        all.says("if it shows nothing", c -> tellsOfNothing(c, Checks.ELEMENT, MountTable::layerOf));
        all.in("Promise 16:");
        all.says("Returns the size of the file that a path shows", FilesAndLinksTest::sizesByWalking);
        all.says("without following links", FilesAndLinksTest::walkingFollowsNoLink);
        all.says("found by going through all mounts and layers", FilesAndLinksTest::walkingThroughAllMounts);
        all.says("`path`: the path", c -> fromShortestToLongest(c, 8, MountTable::sizeByWalking));
        all.says("Returns the size", FilesAndLinksTest::walkingTellsAnySize);
        all.says("or -1 if it does not show a file", c -> tellsOfNothing(c, -1, MountTable::sizeByWalking));
        all.says("if it is no path", c -> wantsAPath(c, MountTable::sizeByWalking));
        all.in("Promise 17:");
        all.says("Returns the owner of what a path shows", FilesAndLinksTest::ownersAreTold);
        all.says("without following links", FilesAndLinksTest::theOwnerOfTheLinkItself);
        all.says("`path`: the path", c -> fromShortestToLongest(c, 3, MountTable::ownerOf));
        all.says("Returns the owner.", FilesAndLinksTest::eachOwnerIsTold);
        all.says("if it is no path", c -> wantsAPath(c, MountTable::ownerOf));
        all.says("if it shows nothing", c -> tellsOfNothing(c, Checks.ELEMENT, MountTable::ownerOf));
    }

    // ---- what all lookers have in common

    /** A call that looks at a path. */
    interface Looker {
        Object look(MountTable table, int path);
    }

    private static void wantsAPath(Checks c, Looker looker) {
        for (MountTable x : new MountTable[] {new MountTable(), Tables.plain()}) {
            for (int path : Tables.NO_PATHS) {
                c.due(Checks.ARGUMENT, "of " + path, () -> looker.look(x, path));
            }
        }
    }

    private static void fromShortestToLongest(Checks c, Object due, Looker looker) {
        MountTable x = Tables.sole();
        for (int path : SOME_PATHS) {
            x.write(3, path, 8);
            c.due(due, "of " + path, () -> looker.look(x, path));
        }
    }

    /** Asks of paths that show nothing, for each reason that there can be. */
    private static void tellsOfNothing(Checks c, Object due, Looker looker) {
        MountTable none = new MountTable();
        for (int path : Tables.paths()) {
            c.due(due, path + ", without mounts", () -> looker.look(none, path));
        }
        MountTable x = Tables.overlay();
        c.due(due, "the empty path", () -> looker.look(x, 0));
        c.due(due, "a path without a file", () -> looker.look(x, 3));
        c.due(due, "a path behind a file", () -> looker.look(x, 22));
        x.remove(2);
        c.due(due, "a whiteout", () -> looker.look(x, 2));
        x.unmount(0);
        x.unmount(1);
        c.due(due, "a file without a mount", () -> looker.look(x, 2));
        x.mount(44, 0, -1);
        c.due(due, "a point", () -> looker.look(x, 44));
        c.due(due, "a path beside the point", () -> looker.look(x, 2));
        x.mount(442, 1, -1);
        c.due(due, "a file under a later point", () -> looker.look(x, 442));
    }

    // ---- write

    private static void aFileIsWritten(Checks c) {
        MountTable x = Tables.plain();
        x.write(2, 31, 10);
        c.due('f', "shows", () -> x.shows(31));
        c.due(10, "size", () -> x.size(31));
        c.due(2, "owner", () -> x.ownerOf(31));
        c.due(0, "layer", () -> x.layerOf(31));
        c.due('-', "a path behind it", () -> x.shows(311));
        c.due('-', "a path ahead of it", () -> x.shows(3));
        x.write(2, 131, 11);
        c.due(2, "the layer in an overlay", () -> x.layerOf(131));
        c.due(10, "the first one stays", () -> x.size(31));
    }

    private static void aFileTakesThePlace(Checks c) {
        MountTable x = Tables.overlay();
        c.due(4, "of a lower file", () -> x.write(0, 2, 4));
        c.due(1, "in the upper layer", () -> x.layerOf(2));
        c.due(7, "which stays", () -> x.used(3));
        c.due(6, "of an own file", () -> x.write(0, 2, 6));
        c.due(5, "of another's file", () -> x.write(1, 2, 5));
        c.due(0, "whose bytes are free", () -> x.used(0));
        x.link(0, 2, 3);
        c.due(8, "of a link", () -> x.write(1, 2, 8));
        c.due('f', "a file then", () -> x.shows(2));
        x.remove(2);
        c.due(9, "of nothing, by a whiteout", () -> x.write(1, 2, 9));
        c.due(0, "which is gone", () -> x.whiteouts(1));
        c.due(1, "its owner", () -> x.ownerOf(2));
        c.due(9, "its size", () -> x.size(2));
    }

    private static void ownersOfFiles(Checks c) {
        MountTable x = Tables.sole();
        for (int owner = 0; owner <= 3; owner++) {
            int asked = owner;
            c.due(5 + owner, "write by " + owner, () -> x.write(asked, 1 + asked, 5 + asked));
            c.due(owner, "the owner", () -> x.ownerOf(1 + asked));
            c.due(5 + owner, "what is used", () -> x.used(asked));
        }
    }

    private static void writeFromShortestToLongest(Checks c) {
        MountTable x = Tables.sole();
        int used = 0;
        for (int path : SOME_PATHS) {
            used += 3;
            c.due(used, "write at " + path, () -> x.write(0, path, 3));
            c.due('f', "shows " + path, () -> x.shows(path));
        }
    }

    private static void sizesOfFiles(Checks c) {
        MountTable x = Tables.sole();
        for (int size : new int[] {0, 1, 255, 256, 9998, 9999}) {
            c.due(size, "write of " + size, () -> x.write(0, 1, size));
            c.due(size, "the size", () -> x.size(1));
            c.due('f', "shows", () -> x.shows(1));
        }
    }

    private static void writeTellsWhatIsUsed(Checks c) {
        MountTable x = Tables.plain();
        c.due(10, "the first", () -> x.write(0, 2, 10));
        c.due(15, "with one in another layer", () -> x.write(0, 12, 5));
        c.due(3, "another owner's", () -> x.write(1, 3, 3));
        c.due(7, "in place of an own one", () -> x.write(0, 2, 2));
        c.due(8, "in place of another's", () -> x.write(0, 3, 1));
        c.due(8, "an empty one", () -> x.write(0, 4, 0));
        c.due(0, "an empty one alone", () -> x.write(3, 41, 0));
        x.unmount(1);
        c.due(9, "with one that is hidden", () -> x.write(0, 12, 1));
    }

    private static void writeChecksItsNumbers(Checks c) {
        MountTable x = Tables.sole();
        for (int owner : Tables.NO_OWNERS) {
            c.due(Checks.ARGUMENT, "owner " + owner, () -> x.write(owner, 2, 1));
        }
        for (int size : new int[] {-1, -2, -9999, 10000, 10001, 65536, Integer.MAX_VALUE, Integer.MIN_VALUE}) {
            c.due(Checks.ARGUMENT, "size " + size, () -> x.write(0, 2, size));
        }
        c.due('-', "nothing was written", () -> x.shows(2));
        c.due(0, "nothing is used", () -> x.used(0));
    }

    private static void writeWantsAPath(Checks c) {
        MountTable x = Tables.sole();
        for (int path : Tables.NO_PATHS) {
            c.due(Checks.ARGUMENT, "write at " + path, () -> x.write(0, path, 1));
        }
        c.due(0, "nothing is used", () -> x.used(0));
    }

    private static void writeWantsAMount(Checks c) {
        MountTable x = Tables.withLayers(1);
        c.due(Checks.ELEMENT, "without mounts", () -> x.write(0, 1, 1));
        x.mount(12, 0, -1);
        for (int path : new int[] {0, 1, 2, 11, 13, 1112, 4444}) {
            c.due(Checks.ELEMENT, "write at " + path, () -> x.write(0, path, 1));
        }
        c.due(1, "write behind the point", () -> x.write(0, 121, 1));
        x.unmount(0);
        c.due(Checks.ELEMENT, "unmounted", () -> x.write(0, 122, 1));
        c.due(1, "nothing more is used", () -> x.used(0));
    }

    private static void writeWantsARest(Checks c) {
        MountTable x = Tables.withLayers(3);
        x.mount(0, 0, -1);
        c.due(Checks.ELEMENT, "the empty point", () -> x.write(0, 0, 1));
        for (int point : new int[] {1, 4, 23, 444, 1111, 4444}) {
            c.due(1, "before the mount at " + point, () -> x.write(0, point, 1));
            int mount = x.mount(point, 1, 2);
            c.due(Checks.ELEMENT, "the point " + point, () -> x.write(0, point, 1));
            x.unmount(mount);
            c.due(0, "as before", () -> x.write(0, point, 0));
        }
    }

    private static void writeKeepsTheQuota(Checks c) {
        MountTable x = Tables.sole();
        x.setQuota(2, 100);
        c.due(Checks.OPERATION, "one more at once", () -> x.write(2, 1, 101));
        c.due(99, "one less", () -> x.write(2, 1, 99));
        c.due(Checks.OPERATION, "two more", () -> x.write(2, 3, 2));
        c.due(100, "just the quota", () -> x.write(2, 3, 1));
        c.due(Checks.OPERATION, "one more", () -> x.write(2, 4, 1));
        c.due('-', "was not written", () -> x.shows(4));
        c.due(100, "an empty file", () -> x.write(2, 4, 0));
        c.due(9999, "another owner has an own quota", () -> x.write(1, 41, 9999));
        x.setQuota(3, 0);
        c.due(Checks.OPERATION, "one byte with the quota 0", () -> x.write(3, 42, 1));
        c.due(0, "no byte with the quota 0", () -> x.write(3, 42, 0));
    }

    private static void theOldBytesAreTakenAway(Checks c) {
        MountTable x = Tables.sole();
        x.setQuota(2, 100);
        x.write(2, 1, 60);
        x.write(2, 2, 40);
        c.due(Checks.OPERATION, "one more in place of 40", () -> x.write(2, 2, 41));
        c.due(40, "it kept its size", () -> x.size(2));
        c.due(100, "as many in place", () -> x.write(2, 2, 40));
        c.due(70, "less in place", () -> x.write(2, 2, 10));
        c.due(Checks.OPERATION, "too many elsewhere", () -> x.write(2, 3, 31));
        c.due(100, "as many elsewhere as are free", () -> x.write(2, 3, 30));
        x.link(2, 1, 2);
        c.due(100, "in place of what a link freed", () -> x.write(2, 4, 60));
        x.remove(4);
        c.due(100, "in place of what remove freed", () -> x.write(2, 41, 60));
    }

    private static void theOldBytesOfOthersStay(Checks c) {
        MountTable x = Tables.overlay();
        x.setQuota(3, 10);
        c.due(Checks.OPERATION, "over the lower file, which stays", () -> x.write(3, 2, 4));
        c.due(0, "which was no copy", () -> x.copies());
        c.due(0, "the lower one shows still", () -> x.layerOf(2));
        c.due(10, "as many as fit over it", () -> x.write(3, 2, 3));
        c.due(Checks.OPERATION, "in place of the upper one alone", () -> x.write(3, 2, 4));
        x.write(0, 3, 9);
        c.due(Checks.OPERATION, "another's bytes do not help", () -> x.write(3, 3, 1));
        c.due(0, "the file is another's still", () -> x.ownerOf(3));
        c.due(10, "an empty one in place of another's", () -> x.write(3, 3, 0));
    }

    private static void ownersOverTheQuota(Checks c) {
        MountTable x = Tables.sole();
        x.write(2, 1, 60);
        x.write(2, 2, 40);
        x.setQuota(2, 70);
        c.due(Checks.OPERATION, "less than before, but too much", () -> x.write(2, 2, 11));
        c.due(Checks.OPERATION, "an empty one", () -> x.write(2, 3, 0));
        c.due(70, "just the quota", () -> x.write(2, 2, 10));
        x.setQuota(2, 0);
        c.due(Checks.OPERATION, "with another one left", () -> x.write(2, 2, 0));
        x.remove(1);
        c.due(0, "with none left", () -> x.write(2, 2, 0));
    }

    // ---- link

    private static void aLinkIsMade(Checks c) {
        MountTable x = Tables.plain();
        x.link(2, 31, 3);
        c.due('l', "shows", () -> x.shows(31));
        c.due(2, "owner", () -> x.ownerOf(31));
        c.due(0, "layer", () -> x.layerOf(31));
        c.due(3, "target", () -> x.end(31));
        x.link(2, 131, 13);
        c.due(2, "the layer in an overlay", () -> x.layerOf(131));
        c.due('-', "a path behind it", () -> x.shows(1311));
    }

    private static void aLinkTakesThePlace(Checks c) {
        MountTable x = Tables.overlay();
        c.due(1, "of a lower file", () -> x.link(0, 2, 4));
        c.due(1, "a copy upward", () -> x.copies());
        c.due(7, "which stays", () -> x.used(3));
        c.due(1, "of a link", () -> x.link(1, 2, 33));
        c.due(33, "its target", () -> x.end(2));
        c.due(1, "its owner", () -> x.ownerOf(2));
        x.write(0, 3, 50);
        c.due(2, "of a file", () -> x.link(1, 3, 4));
        c.due(0, "whose bytes are free", () -> x.used(0));
        x.remove(2);
        c.due(2, "of nothing, by a whiteout", () -> x.link(1, 2, 4));
        c.due(0, "which is gone", () -> x.whiteouts(1));
        c.due(1, "no more copies", () -> x.copies());
    }

    private static void ownersOfLinks(Checks c) {
        MountTable x = Tables.sole();
        for (int owner = 0; owner <= 3; owner++) {
            int asked = owner;
            c.due(owner + 1, "link by " + owner, () -> x.link(asked, 1 + asked, 44));
            c.due(owner, "the owner", () -> x.ownerOf(1 + asked));
        }
    }

    private static void linkFromShortestToLongest(Checks c) {
        MountTable x = Tables.sole();
        int links = 0;
        for (int path : SOME_PATHS) {
            links++;
            c.due(links, "link at " + path, () -> x.link(0, path, 2));
            c.due(2, "the end of " + path, () -> x.end(path));
        }
    }

    private static void targetsFromShortestToLongest(Checks c) {
        MountTable x = Tables.sole();
        for (int target : new int[] {0, 1, 4, 11, 44, 444, 1111, 4444}) {
            c.due(1, "link to " + target, () -> x.link(0, 2, target));
            c.due(target, "the end", () -> x.end(2));
        }
        c.due(1, "link to itself", () -> x.link(0, 2, 2));
        c.due('l', "is a link", () -> x.shows(2));
    }

    private static void linksAreCounted(Checks c) {
        MountTable x = Tables.plain();
        c.due(1, "the first", () -> x.link(0, 2, 4));
        c.due(2, "in another layer", () -> x.link(1, 12, 4));
        c.due(2, "in place of a link", () -> x.link(1, 2, 3));
        x.write(0, 2, 1);
        c.due(2, "one less by write", () -> x.link(0, 31, 4));
        x.remove(31);
        c.due(2, "one less by remove", () -> x.link(0, 32, 4));
        x.unmount(1);
        c.due(3, "with one that is hidden", () -> x.link(0, 33, 4));
        x.mount(0, 0, 1);
        c.due(4, "with one under a copy", () -> x.link(0, 33, 4));
        x.remove(33);
        c.due(4, "with one under a whiteout", () -> x.link(0, 34, 4));
    }

    private static void linkChecksItsOwner(Checks c) {
        MountTable x = Tables.sole();
        for (int owner : Tables.NO_OWNERS) {
            c.due(Checks.ARGUMENT, "owner " + owner, () -> x.link(owner, 2, 3));
        }
        c.due(1, "none was made", () -> x.link(0, 3, 4));
    }

    private static void linkWantsAPath(Checks c) {
        MountTable x = Tables.sole();
        for (int path : Tables.NO_PATHS) {
            c.due(Checks.ARGUMENT, "link at " + path, () -> x.link(0, path, 2));
        }
        c.due(1, "none was made", () -> x.link(0, 3, 4));
    }

    private static void linkWantsATarget(Checks c) {
        MountTable x = Tables.sole();
        for (int target : Tables.NO_PATHS) {
            c.due(Checks.ARGUMENT, "link to " + target, () -> x.link(0, 2, target));
        }
        c.due(1, "none was made", () -> x.link(0, 3, 4));
    }

    private static void linkWantsAMount(Checks c) {
        MountTable x = Tables.withLayers(1);
        c.due(Checks.ELEMENT, "without mounts", () -> x.link(0, 1, 2));
        x.mount(12, 0, -1);
        for (int path : new int[] {0, 1, 2, 11, 13, 1112, 4444}) {
            c.due(Checks.ELEMENT, "link at " + path, () -> x.link(0, path, 121));
        }
        c.due(1, "link to a path that none serves", () -> x.link(0, 121, 4));
        x.unmount(0);
        c.due(Checks.ELEMENT, "unmounted", () -> x.link(0, 122, 4));
    }

    private static void linkWantsARest(Checks c) {
        MountTable x = Tables.withLayers(3);
        x.mount(0, 0, -1);
        c.due(Checks.ELEMENT, "the empty point", () -> x.link(0, 0, 1));
        int links = 0;
        for (int point : new int[] {1, 4, 23, 444, 1111, 4444}) {
            links++;
            c.due(links, "before the mount at " + point, () -> x.link(0, point, 1));
            int mount = x.mount(point, 1, 2);
            c.due(Checks.ELEMENT, "the point " + point, () -> x.link(0, point, 1));
            x.unmount(mount);
        }
    }

    // ---- remove

    private static void aFileIsRemoved(Checks c) {
        MountTable x = Tables.sole();
        x.write(0, 2, 10);
        x.write(0, 22, 3);
        c.due(10, "remove", () -> x.remove(2));
        c.due('-', "shows", () -> x.shows(2));
        c.due(3, "its bytes are free", () -> x.used(0));
        c.due(3, "by layers too", () -> x.usedByLayers(0));
        c.due('f', "a path behind it stays", () -> x.shows(22));
        c.due(0, "without an upper layer, no whiteout", () -> x.whiteouts(0));
        MountTable upper = Tables.overlay();
        c.due(7, "a lower one", () -> upper.remove(2));
        c.due('-', "shows nothing", () -> upper.shows(2));
        c.due(1, "by a whiteout", () -> upper.whiteouts(1));
        c.due(7, "and stays below", () -> upper.used(3));
        upper.write(0, 3, 5);
        c.due(5, "an upper one alone", () -> upper.remove(3));
        c.due(1, "needs no whiteout", () -> upper.whiteouts(1));
    }

    private static void aLinkIsRemovedAlone(Checks c) {
        MountTable x = Tables.sole();
        x.write(0, 2, 10);
        x.link(0, 3, 2);
        c.due(0, "remove", () -> x.remove(3));
        c.due('-', "the link", () -> x.shows(3));
        c.due('f', "its target", () -> x.shows(2));
        c.due(10, "its bytes", () -> x.used(0));
    }

    private static void removeFromShortestToLongest(Checks c) {
        MountTable x = Tables.sole();
        for (int path : SOME_PATHS) {
            x.write(0, path, 3);
            c.due(3, "remove " + path, () -> x.remove(path));
            c.due('-', "shows " + path, () -> x.shows(path));
        }
    }

    private static void removeTellsTheBytes(Checks c) {
        MountTable x = Tables.overlay();
        for (int size : new int[] {0, 1, 9999}) {
            x.write(0, 2, size);
            c.due(size, "an upper one of " + size, () -> x.remove(2));
        }
        x.unmount(1);
        c.due(7, "a lower one", () -> x.remove(2));
    }

    private static void aRemovedLinkHasNoBytes(Checks c) {
        MountTable x = Tables.overlay();
        x.link(0, 3, 4444);
        c.due(0, "in the upper layer", () -> x.remove(3));
        x.link(0, 2, 4444);
        c.due(0, "over a file", () -> x.remove(2));
        x.unmount(1);
        x.link(0, 4, 2);
        x.mount(0, 0, 1);
        c.due(0, "in the lower layer", () -> x.remove(4));
    }

    private static void removeWantsAPath(Checks c) {
        MountTable x = Tables.sole();
        x.write(0, 1, 1);
        for (int path : Tables.NO_PATHS) {
            c.due(Checks.ARGUMENT, "remove " + path, () -> x.remove(path));
        }
        c.due('f', "nothing was removed", () -> x.shows(1));
    }

    private static void removeWantsSomething(Checks c) {
        tellsOfNothing(c, Checks.ELEMENT, MountTable::remove);
        MountTable x = Tables.sole();
        x.write(0, 1, 1);
        x.remove(1);
        c.due(Checks.ELEMENT, "again", () -> x.remove(1));
        MountTable upper = Tables.overlay();
        upper.remove(2);
        c.due(Checks.ELEMENT, "again, over a lower file", () -> upper.remove(2));
        c.due(1, "one whiteout is there", () -> upper.whiteouts(1));
    }

    // ---- shows

    private static void kindsAreTold(Checks c) {
        MountTable x = Tables.overlay();
        x.link(0, 3, 2);
        c.due('f', "a lower file", () -> x.shows(2));
        c.due('l', "an upper link", () -> x.shows(3));
        x.unmount(1);
        x.link(0, 4, 2);
        c.due('-', "what was in the other mount", () -> x.shows(3));
        x.mount(0, 0, 1);
        c.due('l', "a lower link", () -> x.shows(4));
        x.write(0, 4, 0);
        c.due('f', "an upper file of 0 bytes", () -> x.shows(4));
    }

    private static void showsTheLinkItself(Checks c) {
        MountTable x = Tables.sole();
        x.write(0, 2, 1);
        x.link(0, 3, 2);
        x.link(0, 4, 44);
        c.due('l', "a link to a file", () -> x.shows(3));
        c.due('l', "a link to nothing", () -> x.shows(4));
        x.link(0, 4, 4);
        c.due('l', "a link to itself", () -> x.shows(4));
    }

    private static void nothingIsADash(Checks c) {
        tellsOfNothing(c, '-', MountTable::shows);
        MountTable x = Tables.sole();
        x.write(0, 2, 0);
        x.link(0, 3, 0);
        c.due('f', "a file", () -> x.shows(2));
        c.due('l', "a link", () -> x.shows(3));
        c.due('-', "nothing", () -> x.shows(4));
    }

    // ---- layerOf

    private static void layersAreTold(Checks c) {
        MountTable x = Tables.overlay();
        c.due(0, "the lower one", () -> x.layerOf(2));
        x.write(0, 2, 1);
        c.due(1, "the upper one", () -> x.layerOf(2));
        x.unmount(1);
        c.due(0, "the lower one alone", () -> x.layerOf(2));
    }

    private static void theLayerOfTheLinkItself(Checks c) {
        MountTable x = Tables.plain();
        x.setCrossing(0, true);
        x.write(0, 12, 1);
        x.link(0, 3, 12);
        c.due(0, "the link", () -> x.layerOf(3));
        c.due(2, "its target", () -> x.layerOf(12));
        x.link(0, 4, 44);
        c.due(0, "a link to nothing", () -> x.layerOf(4));
    }

    private static void eachLayerIsTold(Checks c) {
        MountTable x = Tables.withLayers(6);
        for (int layer = 0; layer < 6; layer++) {
            int asked = layer;
            x.mount(0, asked, -1);
            x.link(0, 1, 2);
            c.due(layer, "layer", () -> x.layerOf(1));
        }
    }

    // ---- sizeByWalking

    private static void sizesByWalking(Checks c) {
        MountTable x = Tables.overlay();
        c.due(7, "the lower one", () -> x.sizeByWalking(2));
        x.write(0, 2, 5);
        c.due(5, "the upper one", () -> x.sizeByWalking(2));
        x.remove(2);
        c.due(-1, "a whiteout", () -> x.sizeByWalking(2));
        x.unmount(1);
        c.due(7, "the lower one alone", () -> x.sizeByWalking(2));
    }

    private static void walkingFollowsNoLink(Checks c) {
        MountTable x = Tables.overlay();
        x.link(0, 3, 2);
        c.due(-1, "a link to a file", () -> x.sizeByWalking(3));
        c.due(7, "its target", () -> x.sizeByWalking(2));
        x.link(0, 2, 4);
        c.due(-1, "a link over a file", () -> x.sizeByWalking(2));
        x.link(0, 4, 4);
        c.due(-1, "a link to itself", () -> x.sizeByWalking(4));
    }

    private static void walkingThroughAllMounts(Checks c) {
        MountTable x = Tables.withLayers(4);
        x.mount(0, 0, -1);
        x.write(0, 1234, 1);
        x.mount(12, 1, -1);
        c.due(-1, "nothing in a later mount hides", () -> x.sizeByWalking(1234));
        x.write(0, 1234, 2);
        c.due(2, "the later one", () -> x.sizeByWalking(1234));
        x.mount(1, 2, 3);
        x.write(0, 1234, 3);
        c.due(3, "a third with a shorter point", () -> x.sizeByWalking(1234));
        x.mount(124, 2, -1);
        c.due(3, "one beside it", () -> x.sizeByWalking(1234));
        x.mount(1234, 2, -1);
        c.due(-1, "one at the path itself", () -> x.sizeByWalking(1234));
        x.unmount(4);
        x.move(2, 2);
        c.due(2, "the third is moved away", () -> x.sizeByWalking(1234));
        x.unmount(1);
        c.due(1, "the second is unmounted", () -> x.sizeByWalking(1234));
        x.unmount(0);
        c.due(-1, "none serves", () -> x.sizeByWalking(1234));
    }

    private static void walkingTellsAnySize(Checks c) {
        MountTable x = Tables.sole();
        for (int size : new int[] {0, 1, 9999}) {
            x.write(0, 4444, size);
            c.due(size, "size", () -> x.sizeByWalking(4444));
        }
    }

    // ---- ownerOf

    private static void ownersAreTold(Checks c) {
        MountTable x = Tables.overlay();
        c.due(3, "the lower one's", () -> x.ownerOf(2));
        x.write(1, 2, 1);
        c.due(1, "the upper one's", () -> x.ownerOf(2));
        x.unmount(1);
        c.due(3, "the lower one's alone", () -> x.ownerOf(2));
        x.write(0, 2, 1);
        c.due(0, "written over", () -> x.ownerOf(2));
        x.link(2, 2, 3);
        c.due(2, "linked over", () -> x.ownerOf(2));
    }

    private static void theOwnerOfTheLinkItself(Checks c) {
        MountTable x = Tables.overlay();
        x.link(1, 4, 2);
        c.due(1, "the link's", () -> x.ownerOf(4));
        c.due(3, "its target's", () -> x.ownerOf(2));
        x.link(2, 4, 44);
        c.due(2, "of a link to nothing", () -> x.ownerOf(4));
    }

    private static void eachOwnerIsTold(Checks c) {
        MountTable x = Tables.sole();
        for (int owner = 0; owner <= 3; owner++) {
            int asked = owner;
            x.write(owner, 11 + owner, owner);
            x.link(owner, 21 + owner, 0);
            c.due(owner, "of a file", () -> x.ownerOf(11 + asked));
            c.due(owner, "of a link", () -> x.ownerOf(21 + asked));
        }
    }
}
