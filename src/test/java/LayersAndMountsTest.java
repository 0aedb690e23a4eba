/** Promises 1 to 8: the new object, layers and mounts. */
public final class LayersAndMountsTest {
    private static final String ARGUMENT = "throws.IllegalArgumentException";
    private static final String INDEX = "throws.IndexOutOfBoundsException";
    private static final String ELEMENT = "throws.NoSuchElementException";
    private static final String OPERATION = "throws.UnsupportedOperationException";
    private static final String STATE = "throws.IllegalStateException";

    private static final Checks CHECKS = new Checks();

    public static void main(String[] args) {
        aNewObjectIsEmpty();
        sixLayersCanBeAdded();
        mountsAreNumbered();
        aMountWantsAPath();
        aMountWantsTwoLayers();
        anUpperLayerIsInOneMountOnly();
        lowerLayersAreShared();
        mountsEndAtEight();
        theFirstExceptionOfMountCounts();
        unmountedIsGone();
        unmountingFreesTheUpperLayer();
        aMovedMountKeepsItsOrder();
        aMoveChecksItsNumbers();
        aMoveKeepsTheLayers();
        crossingIsToldBack();
        theLastMountServes();
        everyPathIsRead();
        coveredMounts();
        CHECKS.end();
    }

    private static void due(Object want, String what, Checks.Call call) {
        CHECKS.due(want, what, call);
    }

    private static void aNewObjectIsEmpty() {
        MountTable x = new MountTable();
        due(0, "covered of none", () -> x.covered());
        due(0, "hidden of none", () -> x.hidden());
        due(0, "copies of none", () -> x.copies());
        due(ELEMENT, "served without mounts", () -> x.served(0));
        due('-', "shows without mounts", () -> x.shows(1));
        due(INDEX, "whiteouts without layers", () -> x.whiteouts(0));
        due(INDEX, "unmount without mounts", () -> x.unmount(0));
        due(INDEX, "bytes without backups", () -> x.bytes(0));
        for (int owner = 0; owner < 4; owner++) {
            int asked = owner;
            due(0, "used at first", () -> x.used(asked));
            due(0, "used by layers at first", () -> x.usedByLayers(asked));
            due(20000, "quota at first", () -> x.setQuota(asked, 1));
        }
        due(0, "first layer", () -> x.addLayer());
        due(0, "first mount", () -> x.mount(0, 0, -1));
        due(0, "first backup", () -> x.backUp(true));
    }

    private static void sixLayersCanBeAdded() {
        MountTable x = new MountTable();
        for (int number = 0; number < 6; number++) {
            due(number, "layer", () -> x.addLayer());
        }
        due(STATE, "seventh layer", () -> x.addLayer());
        due(STATE, "seventh layer again", () -> x.addLayer());
        due(0, "the sixth is there", () -> x.whiteouts(5));
        due(INDEX, "no seventh is there", () -> x.whiteouts(6));
    }

    private static void mountsAreNumbered() {
        MountTable x = Tables.withLayers(3);
        due(0, "mount 0", () -> x.mount(0, 0, -1));
        due(1, "mount 1", () -> x.mount(1, 0, 1));
        due(1, "unmount leaves one", () -> x.unmount(0));
        due(2, "a number is not used again", () -> x.mount(0, 0, 2));
    }

    private static void aMountWantsAPath() {
        MountTable x = Tables.withLayers(1);
        for (int point : new int[] {-1, 5, 10, 101, 1011, 1110, 4445, 11111, 44440, 9, 50, Integer.MAX_VALUE, Integer.MIN_VALUE}) {
            due(ARGUMENT, "mount at " + point, () -> x.mount(point, 0, -1));
        }
        due(0, "mount at 4444", () -> x.mount(4444, 0, -1));
    }

    private static void aMountWantsTwoLayers() {
        MountTable x = Tables.withLayers(2);
        due(ARGUMENT, "same layers", () -> x.mount(0, 1, 1));
        due(INDEX, "lower -1", () -> x.mount(0, -1, 0));
        due(INDEX, "lower 2", () -> x.mount(0, 2, 0));
        due(INDEX, "upper 2", () -> x.mount(0, 0, 2));
        due(INDEX, "upper -2", () -> x.mount(0, 0, -2));
        due(INDEX, "lower 6", () -> x.mount(0, 6, -1));
        due(INDEX, "no upper layer and no lower one", () -> x.mount(0, -1, -1));
        due(INDEX, "upper far off", () -> x.mount(0, 0, Integer.MAX_VALUE));
        due(0, "nothing was made by these", () -> x.mount(0, 0, 1));
    }

    private static void anUpperLayerIsInOneMountOnly() {
        MountTable x = Tables.withLayers(4);
        x.mount(0, 0, 1);
        due(OPERATION, "an upper one as lower", () -> x.mount(0, 1, -1));
        due(OPERATION, "an upper one as lower under another", () -> x.mount(0, 1, 2));
        due(OPERATION, "an upper one as upper", () -> x.mount(0, 2, 1));
        due(OPERATION, "a lower one as upper", () -> x.mount(0, 2, 0));
        due(1, "others", () -> x.mount(0, 2, 3));
        due(OPERATION, "the second mount's upper one as lower", () -> x.mount(0, 3, -1));
        due(OPERATION, "the second mount's lower one as upper", () -> x.mount(0, 0, 2));
    }

    private static void lowerLayersAreShared() {
        MountTable x = Tables.withLayers(3);
        due(0, "lower", () -> x.mount(0, 0, -1));
        due(1, "lower again", () -> x.mount(0, 0, 1));
        due(2, "lower a third time", () -> x.mount(4, 0, 2));
    }

    private static void mountsEndAtEight() {
        MountTable x = Tables.withLayers(2);
        for (int number = 0; number < 8; number++) {
            due(number, "mount", () -> x.mount(0, 0, -1));
        }
        due(STATE, "ninth mount", () -> x.mount(0, 0, -1));
        due(7, "unmount one", () -> x.unmount(3));
        due(STATE, "still eight were made", () -> x.mount(0, 0, -1));
    }

    private static void theFirstExceptionOfMountCounts() {
        MountTable x = Tables.withLayers(2);
        due(ARGUMENT, "no path before no layer", () -> x.mount(5, 7, 8));
        due(ARGUMENT, "same before no layer", () -> x.mount(0, 7, 7));
        for (int number = 0; number < 8; number++) {
            x.mount(0, 0, number == 0 ? 1 : -1);
        }
        due(ARGUMENT, "no path before eight", () -> x.mount(5, 0, -1));
        due(INDEX, "no layer before eight", () -> x.mount(0, 3, -1));
        due(INDEX, "no layer before one in use", () -> x.mount(0, 1, 3));
        due(OPERATION, "one in use before eight", () -> x.mount(0, 1, -1));
        due(STATE, "eight", () -> x.mount(0, 0, -1));
    }

    private static void unmountedIsGone() {
        MountTable x = Tables.withLayers(1);
        x.mount(0, 0, -1);
        x.mount(1, 0, -1);
        x.mount(2, 0, -1);
        due(2, "unmount 1", () -> x.unmount(1));
        due(INDEX, "unmount 1 again", () -> x.unmount(1));
        due(INDEX, "move an unmounted one", () -> x.move(1, 0));
        due(INDEX, "cross an unmounted one", () -> x.setCrossing(1, true));
        due(INDEX, "unmount -1", () -> x.unmount(-1));
        due(INDEX, "unmount 3", () -> x.unmount(3));
        due(INDEX, "unmount 8", () -> x.unmount(8));
        due(0, "an earlier one serves then", () -> x.served(11));
        due(1, "unmount 2", () -> x.unmount(2));
        due(0, "unmount 0", () -> x.unmount(0));
        due(ELEMENT, "none serves then", () -> x.served(11));
    }

    private static void unmountingFreesTheUpperLayer() {
        MountTable x = Tables.withLayers(2);
        x.mount(0, 0, 1);
        x.write(0, 1, 10);
        x.unmount(0);
        due(1, "the upper one as lower then", () -> x.mount(0, 1, -1));
        due('f', "its file stayed", () -> x.shows(1));
        x.unmount(1);
        due(2, "the layers the other way round", () -> x.mount(0, 1, 0));
    }

    private static void aMovedMountKeepsItsOrder() {
        MountTable x = Tables.withLayers(1);
        x.mount(12, 0, -1);
        x.mount(34, 0, -1);
        due(12, "point before", () -> x.move(0, 3));
        due(1, "the later one still serves 34", () -> x.served(34));
        due(0, "the moved one serves 3", () -> x.served(3));
        due(0, "the moved one serves 3111", () -> x.served(3111));
        due(ELEMENT, "12 is left", () -> x.served(12));
        due(3, "point after the first move", () -> x.move(0, 3));
        due(34, "the later one moves over it", () -> x.move(1, 0));
        due(1, "and serves all", () -> x.served(3));
        due(0, "from the empty point", () -> x.move(1, 4444));
    }

    private static void aMoveChecksItsNumbers() {
        MountTable x = Tables.withLayers(1);
        x.mount(1, 0, -1);
        due(INDEX, "move none to no path", () -> x.move(1, 5));
        due(INDEX, "move -1", () -> x.move(-1, 0));
        due(INDEX, "move 8", () -> x.move(8, 0));
        due(ARGUMENT, "move to no path", () -> x.move(0, 20));
        due(ARGUMENT, "move to -1", () -> x.move(0, -1));
        due(ARGUMENT, "move to five digits", () -> x.move(0, 11111));
        due(0, "it stayed", () -> x.served(1));
    }

    private static void aMoveKeepsTheLayers() {
        MountTable x = Tables.withLayers(2);
        x.mount(1, 0, 1);
        x.write(0, 12, 5);
        x.move(0, 341);
        due('f', "the file goes along", () -> x.shows(3412));
        due('-', "and is not at the old path", () -> x.shows(12));
        x.move(0, 4444);
        due('-', "too deep to be seen", () -> x.shows(4444));
        due(5, "hidden when too deep", () -> x.hidden());
    }

    private static void crossingIsToldBack() {
        MountTable x = Tables.withLayers(1);
        x.mount(0, 0, -1);
        x.mount(0, 0, -1);
        due(false, "at first", () -> x.setCrossing(0, true));
        due(true, "then", () -> x.setCrossing(0, false));
        due(false, "then not", () -> x.setCrossing(0, false));
        due(false, "the other one", () -> x.setCrossing(1, true));
        due(INDEX, "none", () -> x.setCrossing(2, true));
        due(INDEX, "below", () -> x.setCrossing(-1, true));
        due(INDEX, "far", () -> x.setCrossing(8, false));
    }

    private static void theLastMountServes() {
        MountTable x = Tables.withLayers(1);
        x.mount(1, 0, -1);
        due(ELEMENT, "outside", () -> x.served(2));
        due(ELEMENT, "above", () -> x.served(0));
        due(0, "the point", () -> x.served(1));
        x.mount(123, 0, -1);
        due(1, "its point", () -> x.served(123));
        due(1, "behind it", () -> x.served(1234));
        due(0, "above it", () -> x.served(12));
        due(0, "beside it", () -> x.served(124));
        x.mount(0, 0, -1);
        due(2, "the empty point covers all", () -> x.served(1234));
        due(2, "and the empty path", () -> x.served(0));
        due(ARGUMENT, "no path", () -> x.served(15));
    }

    private static void everyPathIsRead() {
        int paths = 0;
        for (int path = -20; path <= 12000; path++) {
            if (Checks.told(servedBySole(path)).equals("0")) {
                paths++;
            }
        }
        int found = paths;
        due(341, "numbers that are paths", () -> found);
        MountTable x = Tables.withLayers(1);
        x.mount(0, 0, -1);
        due(ARGUMENT, "a zero at the end", () -> x.served(120));
        due(ARGUMENT, "a zero inside", () -> x.served(102));
        due(ARGUMENT, "a five", () -> x.served(1253));
        due(ARGUMENT, "five digits", () -> x.served(12341));
        due(ARGUMENT, "below 0", () -> x.served(-12));
    }

    private static Checks.Call servedBySole(int path) {
        MountTable table = Tables.withLayers(1);
        table.mount(0, 0, -1);
        return () -> table.served(path);
    }

    private static void coveredMounts() {
        MountTable x = Tables.withLayers(1);
        x.mount(1, 0, -1);
        x.mount(11, 0, -1);
        due(0, "partly covered", () -> x.covered());
        for (int digit = 2; digit <= 4; digit++) {
            x.mount(10 + digit, 0, -1);
        }
        due(0, "its own point is left", () -> x.covered());
        x.mount(1, 0, -1);
        due(5, "all behind the point", () -> x.covered());
        x.move(5, 12);
        due(1, "one at the same point", () -> x.covered());
        x.move(5, 0);
        due(5, "all by the empty point", () -> x.covered());
        x.unmount(0);
        due(4, "an unmounted one is not covered", () -> x.covered());
        x.unmount(5);
        due(0, "uncovered", () -> x.covered());
        x.move(1, 4444);
        x.move(4, 4444);
        due(1, "the deepest point", () -> x.covered());
    }
}
