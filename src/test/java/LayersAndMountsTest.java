/** Promises 1 to 8, sentence by sentence: the new object, layers and mounts. */
public final class LayersAndMountsTest {
    public static void main(String[] args) {
        sentences().run(args);
    }

    static Sentences sentences() {
        Sentences all = new Sentences();
        all.in("Promise 1:");
        all.says("Creates a system without layers", LayersAndMountsTest::aNewObjectHasNoLayers);
        all.says("and mounts", LayersAndMountsTest::aNewObjectHasNoMounts);
        all.in("Promise 2:");
        all.says("Adds an empty layer.", LayersAndMountsTest::anAddedLayerIsEmpty);
        all.says("Returns the number of the layer.", LayersAndMountsTest::layersAreNumbered);
        all.says("if there are 6 layers", LayersAndMountsTest::aSeventhLayerIsRefused);
        tellOfMount(all);
        tellOfUnmountAndMove(all);
        tellOfTheOthers(all);
        return all;
    }

    private static void tellOfMount(Sentences all) {
        all.in("Promise 3:");
        all.says("Makes a mount.", LayersAndMountsTest::aMountShowsItsLayers);
        all.says("`point`: its point", LayersAndMountsTest::pointsFromShortestToLongest);
        all.says("`lower`: the number of its lower layer", LayersAndMountsTest::eachLayerCanBeLower);
        all.says("`upper`: the number of its upper layer, or -1 for none", LayersAndMountsTest::eachLayerCanBeUpper);
        all.says("Returns the number of the mount.", LayersAndMountsTest::mountsAreNumbered);
        all.says("if the point is no path", LayersAndMountsTest::aMountWantsAPath);
        all.says("or both layers are the same", LayersAndMountsTest::aMountWantsTwoLayers);
        all.says("if there is no such layer, for either", LayersAndMountsTest::aMountWantsLayersThatAreThere);
        all.says("if one of the layers is the upper one of a mount", LayersAndMountsTest::anUpperOneIsRefused);
        all.says("of a mount that is there", LayersAndMountsTest::anUpperOneIsFreeAfterUnmount);
        all.says("or the upper one is in a mount that is there", LayersAndMountsTest::aLowerOneIsNoUpperOne);
        all.says("if 8 mounts were made", LayersAndMountsTest::aNinthMountIsRefused);
    }

    private static void tellOfUnmountAndMove(Sentences all) {
        all.in("Promise 4:");
        all.says("Unmounts a mount.", LayersAndMountsTest::unmountedIsGone);
        all.says("`mount`: the number of the mount", LayersAndMountsTest::onlyTheNamedOneIsUnmounted);
        all.says("Returns the number of mounts that are there.", LayersAndMountsTest::mountsLeftAreCounted);
        all.says("if there is no such mount", LayersAndMountsTest::noSuchMountToUnmount);
        all.says("or it is unmounted", LayersAndMountsTest::noSecondUnmount);
        all.in("Promise 5:");
        all.says("Moves a mount to another point", LayersAndMountsTest::aMoveTakesAllAlong);
        all.says("its place in the order in which mounts were made stays", LayersAndMountsTest::aMoveKeepsTheOrder);
        all.says("`mount`: the number of the mount", LayersAndMountsTest::onlyTheNamedOneIsMoved);
        all.says("`point`: the new point", LayersAndMountsTest::movesToTheShortestAndTheLongest);
        all.says("Returns the point before.", LayersAndMountsTest::aMoveTellsThePointBefore);
        all.says("if there is no such mount", LayersAndMountsTest::noSuchMountToMove);
        all.says("or it is unmounted", LayersAndMountsTest::noMoveOfAnUnmountedOne);
        all.says("if the point is no path", LayersAndMountsTest::aMoveWantsAPath);
    }

    private static void tellOfTheOthers(Sentences all) {
        all.in("Promise 6:");
        all.says("Tells whether a mount is crossing.", LayersAndMountsTest::crossingIsSet);
        all.says("`mount`: the number of the mount", LayersAndMountsTest::onlyTheNamedOneIsSet);
        all.says("`isCrossing`: whether it is from now on", LayersAndMountsTest::crossingStaysFromNowOn);
        all.says("Returns whether it was before.", LayersAndMountsTest::crossingIsToldBack);
        all.says("if there is no such mount", LayersAndMountsTest::noSuchMountToSet);
        all.says("or it is unmounted", LayersAndMountsTest::noSettingOfAnUnmountedOne);
        all.in("Promise 7:");
        all.says("Returns the mount that serves a path.", LayersAndMountsTest::theServingMountIsTold);
        all.says("`path`: the path", LayersAndMountsTest::pathsFromShortestToLongest);
        all.says("Returns the number of the mount.", LayersAndMountsTest::theNumberServing);
        all.says("if it is no path", LayersAndMountsTest::noPathIsServed);
        all.says("if none serves it", LayersAndMountsTest::noneServes);
        all.in("Promise 8:");
        all.says("Returns how many mounts that are there serve no path", LayersAndMountsTest::coveredMounts);
        all.says("mounts that are there serve no path", LayersAndMountsTest::unmountedIsNotCovered);
        all.says("no path of 0 to 4 digits", LayersAndMountsTest::onePathIsEnough);
        all.says("Returns the number of mounts.", LayersAndMountsTest::fromNoneToSevenAreCovered);
    }

    // ---- a new object

    private static void aNewObjectHasNoLayers(Checks c) {
        MountTable x = new MountTable();
        c.due(Checks.INDEX, "mount layer 0", () -> x.mount(0, 0, -1));
        c.due(Checks.INDEX, "whiteouts of layer 0", () -> x.whiteouts(0));
        c.due(Checks.INDEX, "mean size of layer 0", () -> x.meanSize(0));
        c.due(0, "hidden bytes", () -> x.hidden());
        c.due(0, "copies", () -> x.copies());
        c.due(Checks.ARITHMETIC, "the share", () -> x.shownShare());
        c.due(Checks.INDEX, "bytes of backup 0", () -> x.bytes(0));
        for (int owner = 0; owner < 4; owner++) {
            int asked = owner;
            c.due(0, "used by " + owner, () -> x.used(asked));
            c.due(0, "used by layers by " + owner, () -> x.usedByLayers(asked));
        }
        c.due(0, "the first layer", () -> x.addLayer());
        c.due(0, "the first backup", () -> x.backUp(true));
    }

    private static void aNewObjectHasNoMounts(Checks c) {
        MountTable x = new MountTable();
        for (int path : Tables.paths()) {
            c.due(Checks.ELEMENT, "served of " + path, () -> x.served(path));
        }
        c.due(Checks.INDEX, "unmount 0", () -> x.unmount(0));
        c.due(Checks.INDEX, "move 0", () -> x.move(0, 0));
        c.due(Checks.INDEX, "cross 0", () -> x.setCrossing(0, true));
        c.due(0, "covered", () -> x.covered());
        c.due('-', "shows", () -> x.shows(1));
        x.addLayer();
        c.due(0, "the first mount", () -> x.mount(0, 0, -1));
    }

    // ---- layers

    private static void anAddedLayerIsEmpty(Checks c) {
        MountTable x = Tables.sole();
        x.write(0, 1, 5);
        x.addLayer();
        c.due(0, "whiteouts", () -> x.whiteouts(1));
        c.due(Checks.ARITHMETIC, "mean size of no files", () -> x.meanSize(1));
        c.due(5, "the first layer stays", () -> x.size(1));
        x.mount(0, 1, -1);
        for (int path : Tables.paths()) {
            c.due('-', "shows " + path, () -> x.shows(path));
        }
    }

    private static void layersAreNumbered(Checks c) {
        MountTable x = new MountTable();
        for (int number = 0; number < 6; number++) {
            c.due(number, "layer", () -> x.addLayer());
        }
    }

    private static void aSeventhLayerIsRefused(Checks c) {
        MountTable x = Tables.withLayers(5);
        c.due(Checks.INDEX, "layer 5 with 5 layers", () -> x.whiteouts(5));
        c.due(5, "a sixth", () -> x.addLayer());
        c.due(Checks.STATE, "a seventh", () -> x.addLayer());
        c.due(Checks.STATE, "a seventh again", () -> x.addLayer());
        c.due(0, "layer 5 with 6 layers", () -> x.whiteouts(5));
        c.due(Checks.INDEX, "layer 6", () -> x.whiteouts(6));
    }

    // ---- mount

    private static void aMountShowsItsLayers(Checks c) {
        MountTable x = Tables.overlay();
        x.write(1, 3, 4);
        x.unmount(1);
        c.due(2, "a mount of both layers", () -> x.mount(44, 0, 1));
        c.due(7, "the lower file", () -> x.size(442));
        c.due(4, "the upper file", () -> x.size(443));
        c.due(2, "served at its point", () -> x.served(44));
        c.due(0, "not served beside it", () -> x.served(43));
        c.due(1, "it is there beside the first", () -> x.unmount(0));
    }

    private static void pointsFromShortestToLongest(Checks c) {
        int[] points = {0, 1, 4, 11, 44, 111, 444, 1111, 4444, 1234};
        for (int point : points) {
            MountTable x = Tables.withLayers(1);
            c.due(0, "mount at " + point, () -> x.mount(point, 0, -1));
            c.due(0, "served at " + point, () -> x.served(point));
            c.due(point, "the point", () -> x.move(0, 2));
        }
    }

    private static void eachLayerCanBeLower(Checks c) {
        MountTable x = Tables.withLayers(6);
        for (int layer = 0; layer < 6; layer++) {
            int asked = layer;
            c.due(layer, "mount of layer " + layer, () -> x.mount(0, asked, -1));
            x.write(0, 1, 1);
            c.due(layer, "the layer written", () -> x.layerOf(1));
        }
    }

    private static void eachLayerCanBeUpper(Checks c) {
        for (int layer = 0; layer < 6; layer++) {
            int asked = layer;
            MountTable x = Tables.withLayers(6);
            c.due(0, "mount under layer " + layer, () -> x.mount(0, asked == 3 ? 4 : 3, asked));
            x.write(0, 1, 1);
            c.due(layer, "the layer written", () -> x.layerOf(1));
        }
        MountTable x = Tables.withLayers(6);
        c.due(0, "mount under none", () -> x.mount(0, 3, -1));
        x.write(0, 1, 1);
        c.due(3, "the layer written", () -> x.layerOf(1));
        for (int none : new int[] {-2, -6, 6, Integer.MIN_VALUE}) {
            c.due(Checks.INDEX, "only -1 is for none, not " + none, () -> x.mount(0, 3, none));
        }
    }

    private static void mountsAreNumbered(Checks c) {
        MountTable x = Tables.withLayers(3);
        c.due(0, "the first", () -> x.mount(0, 0, -1));
        c.due(1, "the second", () -> x.mount(1, 0, 1));
        c.due(1, "unmount the first", () -> x.unmount(0));
        c.due(2, "its number is not used again", () -> x.mount(0, 0, 2));
        for (int number = 3; number < 8; number++) {
            c.due(number, "more", () -> x.mount(0, 0, -1));
        }
    }

    private static void aMountWantsAPath(Checks c) {
        MountTable x = Tables.withLayers(2);
        for (int point : Tables.NO_PATHS) {
            c.due(Checks.ARGUMENT, "mount at " + point, () -> x.mount(point, 0, 1));
        }
        c.due(0, "none was made by these", () -> x.mount(4444, 0, 1));
    }

    private static void aMountWantsTwoLayers(Checks c) {
        MountTable x = Tables.withLayers(6);
        for (int layer = 0; layer < 6; layer++) {
            int asked = layer;
            c.due(Checks.ARGUMENT, "twice layer " + layer, () -> x.mount(0, asked, asked));
        }
        c.due(Checks.ARGUMENT, "twice layer 6, which is not there", () -> x.mount(0, 6, 6));
        c.due(0, "none was made by these", () -> x.mount(0, 0, 1));
    }

    private static void aMountWantsLayersThatAreThere(Checks c) {
        MountTable x = Tables.withLayers(5);
        for (int layer : new int[] {-2, 5, 6, 7, 255, Integer.MAX_VALUE, Integer.MIN_VALUE}) {
            c.due(Checks.INDEX, "lower " + layer, () -> x.mount(0, layer, -1));
            c.due(Checks.INDEX, "lower " + layer + " under 0", () -> x.mount(0, layer, 0));
            c.due(Checks.INDEX, "upper " + layer, () -> x.mount(0, 0, layer));
        }
        c.due(Checks.INDEX, "lower -1", () -> x.mount(0, -1, 0));
        c.due(Checks.INDEX, "lower -1 under none", () -> x.mount(0, -1, -1));
        c.due(Checks.INDEX, "neither is there", () -> x.mount(0, 5, 6));
        c.due(0, "the last ones that are there", () -> x.mount(0, 4, 3));
        x.addLayer();
        c.due(1, "layer 5 when it was added", () -> x.mount(0, 5, 2));
    }

    private static void anUpperOneIsRefused(Checks c) {
        MountTable x = Tables.withLayers(5);
        x.mount(0, 0, 1);
        x.mount(0, 2, 3);
        for (int upper : new int[] {1, 3}) {
            c.due(Checks.OPERATION, "alone " + upper, () -> x.mount(0, upper, -1));
            c.due(Checks.OPERATION, "as lower " + upper, () -> x.mount(0, upper, 4));
            c.due(Checks.OPERATION, "as upper " + upper, () -> x.mount(0, 4, upper));
        }
        c.due(Checks.OPERATION, "both", () -> x.mount(0, 1, 3));
        c.due(2, "others", () -> x.mount(0, 0, 4));
    }

    private static void anUpperOneIsFreeAfterUnmount(Checks c) {
        MountTable x = Tables.overlay();
        x.write(0, 3, 1);
        x.move(1, 44);
        c.due(Checks.OPERATION, "still there, though moved", () -> x.mount(0, 1, -1));
        x.unmount(1);
        c.due(2, "as lower", () -> x.mount(0, 1, -1));
        c.due('f', "its file stayed", () -> x.shows(3));
        x.unmount(2);
        c.due(3, "as upper", () -> x.mount(0, 0, 1));
        x.unmount(3);
        x.unmount(0);
        c.due(4, "the other way round", () -> x.mount(0, 1, 0));
    }

    private static void aLowerOneIsNoUpperOne(Checks c) {
        MountTable x = Tables.withLayers(4);
        x.mount(0, 0, 1);
        x.mount(0, 2, -1);
        x.mount(0, 2, -1);
        c.due(Checks.OPERATION, "lower in an overlay", () -> x.mount(0, 3, 0));
        c.due(Checks.OPERATION, "lower alone", () -> x.mount(0, 3, 2));
        c.due(2, "unmount one", () -> x.unmount(2));
        c.due(Checks.OPERATION, "lower in another still", () -> x.mount(0, 3, 2));
        c.due(1, "unmount the other", () -> x.unmount(1));
        c.due(3, "in none any more", () -> x.mount(0, 3, 2));
        c.due(4, "a lower one as lower", () -> x.mount(0, 0, -1));
    }

    private static void aNinthMountIsRefused(Checks c) {
        MountTable x = Tables.withLayers(1);
        c.due(Checks.ARGUMENT, "a refused one", () -> x.mount(5, 0, -1));
        for (int number = 0; number < 8; number++) {
            c.due(number, "mount", () -> x.mount(0, 0, -1));
        }
        c.due(Checks.STATE, "a ninth", () -> x.mount(0, 0, -1));
        for (int number = 0; number < 8; number++) {
            x.unmount(number);
        }
        c.due(Checks.STATE, "a ninth, though none is there", () -> x.mount(0, 0, -1));
    }

    // ---- unmount

    private static void unmountedIsGone(Checks c) {
        MountTable x = Tables.overlay();
        x.write(0, 2, 9);
        c.due(1, "served before", () -> x.served(2));
        x.unmount(1);
        c.due(0, "an earlier one serves", () -> x.served(2));
        c.due(7, "and shows", () -> x.size(2));
        c.due(9, "what was in the other is hidden", () -> x.hidden());
        x.unmount(0);
        c.due(Checks.ELEMENT, "none serves", () -> x.served(2));
        c.due('-', "nor shows", () -> x.shows(2));
        c.due(9, "the file stays in its layer", () -> x.used(0));
    }

    private static void onlyTheNamedOneIsUnmounted(Checks c) {
        for (int number = 0; number < 4; number++) {
            int gone = number;
            MountTable x = Tables.withLayers(1);
            for (int point = 1; point <= 4; point++) {
                x.mount(point, 0, -1);
            }
            x.unmount(gone);
            for (int point = 1; point <= 4; point++) {
                int asked = point;
                c.due(point - 1 == gone ? Checks.ELEMENT : point - 1, point + " without " + gone, () -> x.served(asked));
            }
        }
    }

    private static void mountsLeftAreCounted(Checks c) {
        MountTable x = Tables.withLayers(1);
        for (int number = 0; number < 8; number++) {
            x.mount(0, 0, -1);
        }
        int[] order = {3, 0, 7, 5, 1, 2, 6, 4};
        for (int i = 0; i < 8; i++) {
            int number = order[i];
            c.due(7 - i, "left after " + number, () -> x.unmount(number));
        }
    }

    private static void noSuchMountToUnmount(Checks c) {
        MountTable x = Tables.withLayers(1);
        c.due(Checks.INDEX, "0 of none", () -> x.unmount(0));
        x.mount(0, 0, -1);
        x.mount(0, 0, -1);
        x.mount(0, 0, -1);
        for (int number : Tables.NO_NUMBERS) {
            c.due(Checks.INDEX, "unmount " + number, () -> x.unmount(number));
        }
        c.due(2, "all three were there", () -> x.unmount(2));
    }

    private static void noSecondUnmount(Checks c) {
        MountTable x = Tables.overlay();
        x.unmount(0);
        c.due(Checks.INDEX, "again", () -> x.unmount(0));
        c.due(0, "the other one was left", () -> x.unmount(1));
        c.due(Checks.INDEX, "again, with none there", () -> x.unmount(1));
    }

    // ---- move

    private static void aMoveTakesAllAlong(Checks c) {
        MountTable x = Tables.overlay();
        x.write(0, 22, 5);
        x.move(1, 34);
        c.due(7, "the lower file", () -> x.size(342));
        c.due(5, "the upper file", () -> x.size(3422));
        c.due('-', "not at its old path", () -> x.shows(22));
        c.due(12, "what is used stays", () -> x.used(0) + x.used(3));
        x.move(1, 344);
        c.due(7, "what has four digits then", () -> x.size(3442));
        c.due(5, "what would have five is hidden", () -> x.hidden());
        x.move(1, 0);
        c.due(0, "until it is back", () -> x.hidden());
    }

    private static void aMoveKeepsTheOrder(Checks c) {
        MountTable x = Tables.withLayers(1);
        x.mount(12, 0, -1);
        x.mount(34, 0, -1);
        x.move(0, 3);
        c.due(1, "a later one over a moved one with a shorter point", () -> x.served(34));
        c.due(0, "the moved one beside it", () -> x.served(33));
        x.move(0, 341);
        c.due(1, "a later one over a moved one with a longer point", () -> x.served(341));
        x.move(0, 34);
        c.due(1, "a later one over a moved one at the same point", () -> x.served(34));
        x.move(1, 0);
        c.due(1, "a later one that is moved over all", () -> x.served(34));
        x.mount(34, 0, -1);
        x.move(0, 34);
        c.due(2, "and one made after the moves", () -> x.served(34));
    }

    private static void onlyTheNamedOneIsMoved(Checks c) {
        for (int number = 0; number < 4; number++) {
            int moved = number;
            MountTable x = Tables.withLayers(1);
            for (int point = 1; point <= 4; point++) {
                x.mount(point * 11, 0, -1);
            }
            x.move(moved, 12);
            c.due(moved, "served at the new point", () -> x.served(12));
            for (int point = 1; point <= 4; point++) {
                int asked = point * 11;
                c.due(point - 1 == moved ? Checks.ELEMENT : point - 1, asked + " without " + moved, () -> x.served(asked));
            }
        }
    }

    private static void movesToTheShortestAndTheLongest(Checks c) {
        MountTable x = Tables.withLayers(1);
        x.mount(12, 0, -1);
        for (int point : new int[] {0, 4444, 1111, 1, 4, 44, 444, 123}) {
            x.move(0, point);
            c.due(0, "served at " + point, () -> x.served(point));
            c.due(point == 0 ? 0 : Checks.ELEMENT, "served beside " + point, () -> x.served(2));
        }
    }

    private static void aMoveTellsThePointBefore(Checks c) {
        MountTable x = Tables.withLayers(1);
        x.mount(12, 0, -1);
        x.mount(12, 0, -1);
        int[] points = {12, 0, 0, 4444, 1, 3214};
        int before = 12;
        for (int point : points) {
            c.due(before, "the point before " + point, () -> x.move(0, point));
            before = point;
        }
        c.due(12, "the point of the other", () -> x.move(1, 1));
    }

    private static void noSuchMountToMove(Checks c) {
        MountTable x = Tables.withLayers(1);
        c.due(Checks.INDEX, "0 of none", () -> x.move(0, 1));
        x.mount(1, 0, -1);
        x.mount(1, 0, -1);
        x.mount(1, 0, -1);
        for (int number : Tables.NO_NUMBERS) {
            c.due(Checks.INDEX, "move " + number, () -> x.move(number, 2));
        }
        c.due(Checks.ELEMENT, "none was moved", () -> x.served(2));
    }

    private static void noMoveOfAnUnmountedOne(Checks c) {
        MountTable x = Tables.overlay();
        x.unmount(1);
        c.due(Checks.INDEX, "move", () -> x.move(1, 1));
        c.due(0, "it serves nothing", () -> x.served(1));
    }

    private static void aMoveWantsAPath(Checks c) {
        MountTable x = Tables.withLayers(1);
        x.mount(12, 0, -1);
        for (int point : Tables.NO_PATHS) {
            c.due(Checks.ARGUMENT, "move to " + point, () -> x.move(0, point));
        }
        c.due(12, "it stayed", () -> x.move(0, 1));
    }

    // ---- setCrossing

    /** Link 2 of mount 0, at the empty path, leads to 13, which mount 1 serves. */
    private static MountTable linked() {
        MountTable table = Tables.plain();
        table.link(0, 2, 13);
        return table;
    }

    private static void crossingIsSet(Checks c) {
        MountTable x = linked();
        c.due(Checks.OPERATION, "at first", () -> x.end(2));
        x.setCrossing(0, true);
        c.due(13, "crossing", () -> x.end(2));
        x.setCrossing(0, false);
        c.due(Checks.OPERATION, "not crossing", () -> x.end(2));
    }

    private static void onlyTheNamedOneIsSet(Checks c) {
        MountTable x = Tables.withLayers(1);
        for (int number = 0; number < 8; number++) {
            x.mount(0, 0, -1);
        }
        x.setCrossing(5, true);
        for (int number = 0; number < 8; number++) {
            int asked = number;
            c.due(number == 5, "mount " + number, () -> x.setCrossing(asked, false));
        }
    }

    private static void crossingStaysFromNowOn(Checks c) {
        MountTable x = linked();
        x.setCrossing(0, true);
        x.move(0, 2);
        x.move(0, 0);
        x.write(0, 14, 1);
        c.due(13, "after a move and a write", () -> x.end(2));
        x.mount(3, 0, -1);
        c.due(true, "after another mount", () -> x.setCrossing(0, true));
        c.due(false, "which has its own", () -> x.setCrossing(2, true));
    }

    private static void crossingIsToldBack(Checks c) {
        MountTable x = Tables.sole();
        c.due(false, "at first", () -> x.setCrossing(0, false));
        c.due(false, "then", () -> x.setCrossing(0, true));
        c.due(true, "then", () -> x.setCrossing(0, true));
        c.due(true, "then", () -> x.setCrossing(0, false));
        c.due(false, "then", () -> x.setCrossing(0, true));
    }

    private static void noSuchMountToSet(Checks c) {
        MountTable x = Tables.withLayers(1);
        c.due(Checks.INDEX, "0 of none", () -> x.setCrossing(0, true));
        x.mount(1, 0, -1);
        x.mount(1, 0, -1);
        x.mount(1, 0, -1);
        for (int number : Tables.NO_NUMBERS) {
            c.due(Checks.INDEX, "set " + number, () -> x.setCrossing(number, true));
        }
        c.due(false, "none was set", () -> x.setCrossing(2, true));
    }

    private static void noSettingOfAnUnmountedOne(Checks c) {
        MountTable x = Tables.overlay();
        x.setCrossing(1, true);
        x.unmount(1);
        c.due(Checks.INDEX, "set", () -> x.setCrossing(1, true));
        c.due(Checks.INDEX, "set back", () -> x.setCrossing(1, false));
        c.due(false, "the other", () -> x.setCrossing(0, false));
    }

    // ---- served

    private static void theServingMountIsTold(Checks c) {
        MountTable x = Tables.withLayers(1);
        x.mount(0, 0, -1);
        x.mount(12, 0, -1);
        c.due(1, "the point", () -> x.served(12));
        c.due(1, "behind it", () -> x.served(1244));
        c.due(0, "a part of it", () -> x.served(1));
        c.due(0, "beside it", () -> x.served(112));
        x.mount(0, 0, -1);
        c.due(2, "a shorter point made later", () -> x.served(1244));
    }

    private static void pathsFromShortestToLongest(Checks c) {
        MountTable x = Tables.sole();
        for (int path : Tables.paths()) {
            c.due(0, "served of " + path, () -> x.served(path));
        }
    }

    private static void theNumberServing(Checks c) {
        MountTable x = Tables.withLayers(1);
        for (int number = 0; number < 8; number++) {
            x.mount(0, 0, -1);
            c.due(number, "the last one", () -> x.served(4444));
        }
        for (int number = 7; number > 0; number--) {
            x.unmount(number);
            c.due(number - 1, "the last one that is there", () -> x.served(4444));
        }
    }

    private static void noPathIsServed(Checks c) {
        MountTable x = Tables.sole();
        for (int number : Tables.NO_PATHS) {
            c.due(Checks.ARGUMENT, "served of " + number, () -> x.served(number));
        }
    }

    private static void noneServes(Checks c) {
        MountTable x = Tables.withLayers(1);
        c.due(Checks.ELEMENT, "without mounts", () -> x.served(1));
        x.mount(234, 0, -1);
        for (int path : new int[] {0, 2, 23, 231, 233, 3, 4, 1234, 3234}) {
            c.due(Checks.ELEMENT, "served of " + path, () -> x.served(path));
        }
        c.due(0, "the first that is", () -> x.served(234));
        x.move(0, 4444);
        c.due(Checks.ELEMENT, "above the longest point", () -> x.served(444));
        x.unmount(0);
        c.due(Checks.ELEMENT, "unmounted", () -> x.served(4444));
    }

    // ---- covered

    private static void coveredMounts(Checks c) {
        MountTable x = Tables.withLayers(1);
        x.mount(12, 0, -1);
        c.due(0, "alone", () -> x.covered());
        x.mount(1, 0, -1);
        c.due(1, "by a shorter point", () -> x.covered());
        x.mount(1, 0, -1);
        c.due(2, "by the same point", () -> x.covered());
        x.move(2, 2);
        c.due(1, "no more", () -> x.covered());
        x.move(2, 0);
        c.due(2, "by the empty point", () -> x.covered());
        x.move(2, 11);
        x.move(1, 123);
        c.due(0, "by a longer point", () -> x.covered());
        x.move(0, 1234);
        c.due(1, "a longest point by one with a digit less", () -> x.covered());
    }

    private static void unmountedIsNotCovered(Checks c) {
        MountTable x = Tables.withLayers(1);
        x.mount(1, 0, -1);
        x.mount(2, 0, -1);
        x.mount(0, 0, -1);
        c.due(2, "two are covered", () -> x.covered());
        x.unmount(0);
        c.due(1, "one is there of these", () -> x.covered());
        x.unmount(2);
        c.due(0, "none covers", () -> x.covered());
        x.unmount(1);
        c.due(0, "none is there", () -> x.covered());
    }

    private static void onePathIsEnough(Checks c) {
        MountTable x = Tables.withLayers(1);
        x.mount(0, 0, -1);
        for (int digit = 1; digit <= 4; digit++) {
            x.mount(digit, 0, -1);
        }
        c.due(0, "the empty path is left", () -> x.covered());
        x.mount(0, 0, -1);
        c.due(5, "no path is left", () -> x.covered());
        x.move(5, 444);
        c.due(0, "others are left", () -> x.covered());
        for (int digit = 1; digit <= 4; digit++) {
            x.move(digit, 4440 + digit);
        }
        c.due(4, "paths of four digits are lost", () -> x.covered());
        x.move(5, 4444);
        c.due(1, "one of four digits is lost", () -> x.covered());
        x.move(0, 444);
        c.due(1, "a path of three digits is left", () -> x.covered());
    }

    private static void fromNoneToSevenAreCovered(Checks c) {
        MountTable x = Tables.withLayers(1);
        c.due(0, "without mounts", () -> x.covered());
        for (int number = 0; number < 8; number++) {
            x.mount(4444, 0, -1);
            c.due(number, "of " + (number + 1), () -> x.covered());
        }
        for (int left = 6; left >= 0; left--) {
            x.unmount(left + 1);
            c.due(left, "when " + (left + 1) + " are left", () -> x.covered());
        }
        x.unmount(0);
        c.due(0, "when none is left", () -> x.covered());
    }
}
