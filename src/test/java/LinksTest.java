/** Promises 14 and 15, sentence by sentence: where links lead. */
public final class LinksTest {
    public static void main(String[] args) {
        sentences().run(args);
    }

    static Sentences sentences() {
        Sentences all = new Sentences();
        all.in("Promise 14:");
        all.says("Returns the path at which a path ends by following links.", LinksTest::linksAreFollowed);
        all.says("`path`: the path", LinksTest::endsFromShortestToLongest);
        all.says("which shows a file or nothing", LinksTest::theEndIsNoLink);
        all.says("if it is no path", LinksTest::endWantsAPath);
        all.says("if a link", c -> aLinkThatDoesNotCross(c, MountTable::end));
        all.says("also a fifth one, does not lead on", c -> aFifthLinkThatDoesNotCross(c, MountTable::end));
        all.says("as its mount is not crossing", LinksTest::onlyTheMountOfTheLinkCounts);
        all.says("if it leads over more than 4 links", LinksTest::endsOfFourAndFiveLinks);
        all.in("Promise 15:");
        all.says("Returns the size of the file at which a path ends.", LinksTest::sizesBehindLinks);
        all.says("`path`: the path", LinksTest::sizesFromShortestToLongest);
        all.says("Returns the size.", LinksTest::anySizeIsTold);
        all.says("if it is no path", LinksTest::sizeWantsAPath);
        all.says("if a link", c -> aLinkThatDoesNotCross(c, MountTable::size));
        all.says("also a fifth one, does not lead on", c -> aFifthLinkThatDoesNotCross(c, MountTable::size));
        all.says("as its mount is not crossing", LinksTest::sizesByCrossing);
        all.says("if it leads over more than 4 links", LinksTest::sizesOfFourAndFiveLinks);
        all.says("if it ends at a path that shows nothing", LinksTest::noSizeOfNothing);
        return all;
    }

    /** A call that follows links from a path. */
    interface Follower {
        Object follow(MountTable table, int path);
    }

    /** Links 2 to 21, 21 to 22, 22 to 23, 23 to 24, 24 to 31, 31 to 32, as many as asked, in mount 0 of plain. */
    private static MountTable chain(int links) {
        int[] stations = {2, 21, 22, 23, 24, 31, 32};
        MountTable table = Tables.plain();
        for (int i = 0; i < links; i++) {
            table.link(0, stations[i], stations[i + 1]);
        }
        return table;
    }

    // ---- both

    private static void aLinkThatDoesNotCross(Checks c, Follower follower) {
        int[] stations = {2, 21, 22, 23};
        for (int links = 0; links < 4; links++) {
            MountTable x = chain(links);
            x.link(0, stations[links], 13);
            x.write(0, 13, 5);
            c.due(Checks.OPERATION, "link " + (links + 1), () -> follower.follow(x, 2));
        }
        MountTable x = chain(0);
        x.unmount(0);
        x.link(0, 13, 2);
        c.due(Checks.OPERATION, "to a path that none serves", () -> follower.follow(x, 13));
    }

    private static void aFifthLinkThatDoesNotCross(Checks c, Follower follower) {
        MountTable x = chain(4);
        x.link(0, 24, 13);
        c.due(Checks.OPERATION, "a fifth", () -> follower.follow(x, 2));
        c.due(Checks.OPERATION, "from the second on, as a fourth", () -> follower.follow(x, 21));
        x.setCrossing(0, true);
        c.due(Checks.STATE, "a fifth that crosses", () -> follower.follow(x, 2));
        MountTable sixth = chain(5);
        sixth.link(0, 31, 13);
        c.due(Checks.STATE, "a sixth, behind a fifth that leads on", () -> follower.follow(sixth, 2));
        MountTable back = Tables.plain();
        back.setCrossing(0, true);
        back.setCrossing(1, false);
        int[] stations = {2, 21, 22, 23, 12, 3};
        for (int i = 0; i < 5; i++) {
            back.link(0, stations[i], stations[i + 1]);
        }
        c.due(Checks.OPERATION, "a fifth of another mount", () -> follower.follow(back, 2));
        back.setCrossing(1, true);
        c.due(Checks.STATE, "which crosses then", () -> follower.follow(back, 2));
    }

    // ---- end

    private static void linksAreFollowed(Checks c) {
        int[] due = {2, 21, 22, 23, 24};
        for (int links = 0; links <= 4; links++) {
            MountTable x = chain(links);
            c.due(due[links], links + " links", () -> x.end(2));
        }
        MountTable upper = Tables.overlay();
        upper.link(0, 3, 2);
        c.due(2, "from an upper link to a lower file", () -> upper.end(3));
        upper.remove(3);
        c.due(3, "no link any more", () -> upper.end(3));
    }

    private static void endsFromShortestToLongest(Checks c) {
        MountTable x = Tables.sole();
        MountTable none = new MountTable();
        for (int path : Tables.paths()) {
            c.due(path, "the end of " + path, () -> x.end(path));
            c.due(path, "the end of " + path + " without mounts", () -> none.end(path));
        }
        MountTable linked = Tables.sole();
        for (int path : new int[] {1, 44, 111, 4444}) {
            linked.link(0, path, 0);
            c.due(0, "from " + path + " to the empty path", () -> linked.end(path));
            linked.link(0, path, 3333);
            c.due(3333, "from " + path + " to a longest one", () -> linked.end(path));
        }
    }

    private static void theEndIsNoLink(Checks c) {
        MountTable x = chain(3);
        c.due('-', "nothing", () -> x.shows(x.end(2)));
        x.write(0, 23, 1);
        c.due('f', "a file", () -> x.shows(x.end(2)));
        x.write(0, 21, 1);
        c.due(21, "the first that is no link", () -> x.end(2));
        x.remove(2);
        c.due(2, "the path itself", () -> x.end(2));
        MountTable upper = Tables.overlay();
        upper.link(0, 3, 2);
        upper.remove(2);
        c.due(2, "a whiteout", () -> upper.end(3));
    }

    private static void endWantsAPath(Checks c) {
        MountTable x = chain(5);
        for (int path : Tables.NO_PATHS) {
            c.due(Checks.ARGUMENT, "end of " + path, () -> x.end(path));
        }
    }

    private static void onlyTheMountOfTheLinkCounts(Checks c) {
        MountTable x = Tables.plain();
        x.link(0, 2, 13);
        x.setCrossing(1, true);
        c.due(Checks.OPERATION, "the mount of the target", () -> x.end(2));
        x.setCrossing(0, true);
        x.setCrossing(1, false);
        c.due(13, "the mount of the link", () -> x.end(2));
        x.link(0, 13, 14);
        c.due(14, "within a mount that is not crossing", () -> x.end(2));
        x.link(0, 14, 3);
        c.due(Checks.OPERATION, "out of it", () -> x.end(2));
        x.mount(11, 1, -1);
        x.link(0, 14, 111);
        c.due(Checks.OPERATION, "into another mount of the same layer", () -> x.end(14));
        x.unmount(2);
        c.due(111, "which is gone", () -> x.end(14));
        x.move(1, 4);
        c.due(Checks.OPERATION, "a target that stays when its mount is moved", () -> x.end(44));
        c.due(Checks.OPERATION, "from there over more", () -> x.end(43));
    }

    private static void endsOfFourAndFiveLinks(Checks c) {
        c.due(24, "four", () -> chain(4).end(2));
        c.due(Checks.STATE, "five", () -> chain(5).end(2));
        c.due(Checks.STATE, "six", () -> chain(6).end(2));
        c.due(31, "the last four of five", () -> chain(5).end(21));
        MountTable x = chain(4);
        x.link(0, 24, 2);
        for (int path : new int[] {2, 21, 22, 23, 24}) {
            c.due(Checks.STATE, "a ring from " + path, () -> x.end(path));
        }
        x.link(0, 3, 3);
        c.due(Checks.STATE, "a link to itself", () -> x.end(3));
        x.write(0, 24, 1);
        c.due(24, "a file in place of the fifth", () -> x.end(2));
    }

    // ---- size

    private static void sizesBehindLinks(Checks c) {
        int[] ends = {2, 21, 22, 23, 24};
        for (int links = 0; links <= 4; links++) {
            MountTable x = chain(links);
            x.write(0, ends[links], 6);
            c.due(6, links + " links", () -> x.size(2));
        }
        MountTable upper = Tables.overlay();
        upper.link(0, 3, 2);
        c.due(7, "a lower file", () -> upper.size(3));
        upper.write(0, 2, 9);
        c.due(9, "an upper file", () -> upper.size(3));
    }

    private static void sizesFromShortestToLongest(Checks c) {
        MountTable x = Tables.sole();
        int size = 0;
        for (int path : new int[] {1, 4, 11, 44, 111, 444, 1111, 4444}) {
            size++;
            x.write(0, path, size);
            c.due(size, "size of " + path, () -> x.size(path));
        }
    }

    private static void anySizeIsTold(Checks c) {
        MountTable x = Tables.sole();
        x.link(0, 3, 4444);
        for (int size : new int[] {0, 1, 9999}) {
            x.write(0, 4444, size);
            c.due(size, "the file itself", () -> x.size(4444));
            c.due(size, "behind a link", () -> x.size(3));
        }
    }

    private static void sizeWantsAPath(Checks c) {
        MountTable x = chain(5);
        for (int path : Tables.NO_PATHS) {
            c.due(Checks.ARGUMENT, "size of " + path, () -> x.size(path));
        }
    }

    private static void sizesByCrossing(Checks c) {
        MountTable x = Tables.plain();
        x.link(0, 2, 13);
        x.write(0, 13, 5);
        x.setCrossing(1, true);
        c.due(Checks.OPERATION, "the mount of the target", () -> x.size(2));
        x.setCrossing(0, true);
        x.setCrossing(1, false);
        c.due(5, "the mount of the link", () -> x.size(2));
        x.setCrossing(0, false);
        c.due(Checks.OPERATION, "not any more", () -> x.size(2));
    }

    private static void sizesOfFourAndFiveLinks(Checks c) {
        MountTable four = chain(4);
        four.write(0, 24, 8);
        c.due(8, "four", () -> four.size(2));
        MountTable five = chain(5);
        five.write(0, 31, 8);
        c.due(Checks.STATE, "five", () -> five.size(2));
        c.due(8, "the last four of five", () -> five.size(21));
        c.due(Checks.STATE, "five to nothing", () -> chain(5).size(2));
        c.due(Checks.STATE, "six", () -> chain(6).size(2));
        MountTable ring = Tables.sole();
        ring.link(0, 3, 3);
        c.due(Checks.STATE, "a link to itself", () -> ring.size(3));
    }

    private static void noSizeOfNothing(Checks c) {
        MountTable none = new MountTable();
        for (int path : Tables.paths()) {
            c.due(Checks.ELEMENT, path + ", without mounts", () -> none.size(path));
        }
        for (int links = 0; links <= 4; links++) {
            MountTable x = chain(links);
            c.due(Checks.ELEMENT, links + " links to nothing", () -> x.size(2));
        }
        MountTable x = Tables.overlay();
        x.link(0, 3, 2);
        x.link(0, 4, 0);
        x.remove(2);
        c.due(Checks.ELEMENT, "a link to a whiteout", () -> x.size(3));
        c.due(Checks.ELEMENT, "a link to the empty path", () -> x.size(4));
        x.setCrossing(1, true);
        x.move(1, 4);
        x.unmount(0);
        c.due(Checks.ELEMENT, "a link to a path that none serves", () -> x.size(43));
    }
}
