/** Promises 24 to 26, sentence by sentence: backups. */
public final class BackupsTest {
    public static void main(String[] args) {
        sentences().run(args);
    }

    static Sentences sentences() {
        Sentences all = new Sentences();
        all.in("Promise 24:");
        all.says("Takes a backup.", BackupsTest::aBackupIsOfItsTime);
        all.says("`isOfSeen`: true for what is seen, false for what is there", BackupsTest::bothSorts);
        all.says("Returns the number of the backup.", BackupsTest::backupsAreNumbered);
        all.says("if there are 6 backups", BackupsTest::aSeventhIsRefused);
        all.in("Promise 25:");
        all.says("Returns the bytes of a backup.", BackupsTest::bytesOfBothSorts);
        all.says("`backup`: the number of the backup", BackupsTest::eachBackupHasItsBytes);
        all.says("Returns the sum of its sizes.", BackupsTest::sumsFromNoneToMost);
        all.says("sum of its sizes", BackupsTest::aFileSeenTwiceHasTwoSizes);
        all.says("if there is no such backup", c -> wantsABackup(c, MountTable::bytes));
        all.in("Promise 26:");
        all.says("Returns how much a backup differs", BackupsTest::noDifferenceAtOnce);
        all.says("from one of the same sort that would be taken now", BackupsTest::eachSortComparesItsOwn);
        all.says("`backup`: the number of the backup", BackupsTest::eachBackupHasItsDifferences);
        all.says("Returns the number of places that only one of both has", BackupsTest::placesOfSeenOnly);
        all.says("places that only one of both has", BackupsTest::placesOfThereOnly);
        all.says("or for which their sizes differ", BackupsTest::sizesDiffer);
        all.says("only one of both has", BackupsTest::anEmptyFileHasAPlace);
        all.says("if there is no such backup", c -> wantsABackup(c, MountTable::differences));
        return all;
    }

    /** Files 1 and 2 of 10 and 20 bytes in layer 0, alone as mount 0 and under layer 1 as mount 1. */
    private static MountTable twoFiles() {
        MountTable table = Tables.withLayers(2);
        table.mount(0, 0, -1);
        table.write(0, 1, 10);
        table.write(0, 2, 20);
        table.mount(0, 0, 1);
        return table;
    }

    // ---- backUp

    private static void aBackupIsOfItsTime(Checks c) {
        MountTable x = twoFiles();
        x.backUp(true);
        x.backUp(false);
        x.write(0, 1, 99);
        x.remove(2);
        x.addLayer();
        x.unmount(0);
        c.due(30, "what was seen", () -> x.bytes(0));
        c.due(30, "what was there", () -> x.bytes(1));
        x.backUp(true);
        x.backUp(false);
        c.due(99, "what is seen", () -> x.bytes(2));
        c.due(129, "what is there", () -> x.bytes(3));
    }

    private static void bothSorts(Checks c) {
        MountTable x = twoFiles();
        x.remove(2);
        x.link(0, 3, 1);
        x.backUp(true);
        x.backUp(false);
        c.due(10, "true for what is seen", () -> x.bytes(0));
        c.due(30, "false for what is there", () -> x.bytes(1));
        x.unmount(1);
        c.due(1, "one more file is seen", () -> x.differences(0));
        c.due(0, "none more is there", () -> x.differences(1));
    }

    private static void backupsAreNumbered(Checks c) {
        MountTable none = new MountTable();
        for (int number = 0; number < 6; number++) {
            boolean isOfSeen = number % 3 > 0;
            c.due(number, "backup", () -> none.backUp(isOfSeen));
        }
    }

    private static void aSeventhIsRefused(Checks c) {
        MountTable x = twoFiles();
        for (int number = 0; number < 5; number++) {
            x.backUp(number % 2 == 0);
        }
        c.due(Checks.INDEX, "a sixth is not there", () -> x.bytes(5));
        c.due(5, "a sixth", () -> x.backUp(true));
        c.due(Checks.STATE, "a seventh of what is seen", () -> x.backUp(true));
        c.due(Checks.STATE, "a seventh of what is there", () -> x.backUp(false));
        c.due(30, "the sixth is there", () -> x.bytes(5));
        c.due(Checks.INDEX, "a seventh is not", () -> x.bytes(6));
    }

    // ---- bytes

    private static void bytesOfBothSorts(Checks c) {
        MountTable x = twoFiles();
        x.write(1, 1, 4);
        x.remove(2);
        x.link(1, 3, 1);
        x.write(1, 4444, 100);
        x.backUp(true);
        x.backUp(false);
        c.due(104, "seen", () -> x.bytes(0));
        c.due(134, "there", () -> x.bytes(1));
        x.move(1, 4);
        x.unmount(0);
        x.backUp(true);
        x.backUp(false);
        c.due(4, "seen with four digits", () -> x.bytes(2));
        c.due(134, "there, however deep", () -> x.bytes(3));
    }

    private static void eachBackupHasItsBytes(Checks c) {
        MountTable x = Tables.sole();
        for (int number = 0; number < 6; number++) {
            x.write(0, 1, number * 3);
            x.backUp(number % 2 == 0);
        }
        for (int number = 0; number < 6; number++) {
            int asked = number;
            c.due(number * 3, "backup " + number, () -> x.bytes(asked));
        }
    }

    private static void sumsFromNoneToMost(Checks c) {
        MountTable none = new MountTable();
        none.backUp(true);
        none.backUp(false);
        c.due(0, "seen in an empty system", () -> none.bytes(0));
        c.due(0, "there in an empty system", () -> none.bytes(1));
        MountTable x = Tables.withLayers(6);
        for (int layer = 0; layer < 6; layer++) {
            int owner = layer % 4;
            x.setQuota(owner, 99999);
            x.mount(0, layer, -1);
            for (int path = 1; path <= 4; path++) {
                x.write(owner, path, 9999);
            }
        }
        x.backUp(true);
        x.backUp(false);
        c.due(4 * 9999, "the largest files seen", () -> x.bytes(0));
        c.due(6 * 4 * 9999, "the largest files there, in six layers", () -> x.bytes(1));
    }

    private static void aFileSeenTwiceHasTwoSizes(Checks c) {
        MountTable x = Tables.withLayers(1);
        x.mount(1, 0, -1);
        x.mount(2, 0, -1);
        x.write(0, 13, 5);
        x.backUp(true);
        x.backUp(false);
        c.due(10, "seen at two paths", () -> x.bytes(0));
        c.due(5, "there once", () -> x.bytes(1));
    }

    /** A call that asks about a backup. */
    interface Asking {
        Object of(MountTable table, int backup);
    }

    private static void wantsABackup(Checks c, Asking asking) {
        MountTable x = twoFiles();
        c.due(Checks.INDEX, "backup 0 of none", () -> asking.of(x, 0));
        for (int taken = 0; taken < 3; taken++) {
            x.backUp(taken == 1);
        }
        for (int number : Tables.NO_NUMBERS) {
            c.due(Checks.INDEX, "backup " + number, () -> asking.of(x, number));
        }
        for (int taken = 3; taken < 6; taken++) {
            int next = taken;
            c.due(Checks.INDEX, "backup " + next + " too early", () -> asking.of(x, next));
            x.backUp(taken == 4);
        }
        for (int number : new int[] {-1, 6, 7, Integer.MAX_VALUE, Integer.MIN_VALUE}) {
            c.due(Checks.INDEX, "backup " + number + " of six", () -> asking.of(x, number));
        }
    }

    // ---- differences

    private static void noDifferenceAtOnce(Checks c) {
        for (MountTable x : new MountTable[] {new MountTable(), Tables.sole(), twoFiles()}) {
            x.backUp(true);
            x.backUp(false);
            c.due(0, "seen", () -> x.differences(0));
            c.due(0, "there", () -> x.differences(1));
        }
    }

    private static void eachSortComparesItsOwn(Checks c) {
        MountTable x = twoFiles();
        x.backUp(true);
        x.backUp(false);
        x.write(1, 1, 10);
        c.due(0, "the same size is seen from another layer", () -> x.differences(0));
        c.due(1, "one more is there", () -> x.differences(1));
        x.remove(2);
        c.due(1, "one less is seen", () -> x.differences(0));
        c.due(1, "none less is there", () -> x.differences(1));
        x.unmount(0);
        x.unmount(1);
        c.due(2, "none is seen", () -> x.differences(0));
        c.due(1, "mounts do not matter to what is there", () -> x.differences(1));
    }

    private static void eachBackupHasItsDifferences(Checks c) {
        MountTable x = Tables.sole();
        int[] paths = Tables.paths();
        for (int number = 0; number < 6; number++) {
            x.backUp(number % 2 == 0);
            x.write(0, paths[1 + number], 1);
        }
        for (int number = 0; number < 6; number++) {
            int asked = number;
            c.due(6 - number, "backup " + number, () -> x.differences(asked));
        }
    }

    private static void placesOfSeenOnly(Checks c) {
        MountTable x = twoFiles();
        x.backUp(true);
        x.write(1, 3, 5);
        c.due(1, "a place more", () -> x.differences(0));
        x.remove(2);
        c.due(2, "a place less", () -> x.differences(0));
        x.link(1, 4, 3);
        c.due(2, "a link is no file", () -> x.differences(0));
        x.link(1, 1, 3);
        c.due(3, "a link in place of a file", () -> x.differences(0));
        x.remove(1);
        c.due(3, "a whiteout in place of that", () -> x.differences(0));
        x.move(0, 4);
        x.move(1, 4);
        c.due(3, "1 and 2 are gone, 43 is new", () -> x.differences(0));
    }

    private static void placesOfThereOnly(Checks c) {
        MountTable x = twoFiles();
        x.backUp(false);
        x.remove(1);
        c.due(0, "a whiteout is no file", () -> x.differences(0));
        x.write(1, 2, 20);
        c.due(1, "a copy is a place more", () -> x.differences(0));
        x.unmount(1);
        x.remove(1);
        c.due(2, "a place less", () -> x.differences(0));
        x.link(0, 3, 2);
        c.due(2, "a link is no file", () -> x.differences(0));
        x.addLayer();
        c.due(2, "an empty layer has none", () -> x.differences(0));
        x.mount(0, 2, -1);
        x.write(0, 2, 20);
        c.due(3, "a layer added later has one", () -> x.differences(0));
        x.addLayer();
        x.addLayer();
        x.addLayer();
        x.mount(0, 5, -1);
        x.write(0, 4444, 20);
        c.due(4, "the last path of the last layer", () -> x.differences(0));
    }

    private static void sizesDiffer(Checks c) {
        MountTable x = twoFiles();
        x.unmount(1);
        x.backUp(true);
        x.backUp(false);
        for (int size : new int[] {0, 9, 11, 9999}) {
            x.write(0, 1, size);
            c.due(1, "seen with " + size, () -> x.differences(0));
            c.due(1, "there with " + size, () -> x.differences(1));
        }
        x.write(0, 2, 21);
        c.due(2, "two are seen", () -> x.differences(0));
        c.due(2, "two are there", () -> x.differences(1));
        x.write(3, 1, 10);
        x.write(3, 2, 20);
        c.due(0, "the same sizes are seen, whoever owns them", () -> x.differences(0));
        c.due(0, "the same sizes are there, whoever owns them", () -> x.differences(1));
    }

    private static void anEmptyFileHasAPlace(Checks c) {
        MountTable x = twoFiles();
        x.backUp(true);
        x.backUp(false);
        x.write(0, 33, 0);
        c.due(1, "seen now", () -> x.differences(0));
        c.due(1, "there now", () -> x.differences(1));
        x.backUp(true);
        x.backUp(false);
        x.remove(33);
        c.due(1, "seen before", () -> x.differences(2));
        c.due(1, "there before", () -> x.differences(3));
        c.due(0, "seen as at first", () -> x.differences(0));
        c.due(0, "there as at first", () -> x.differences(1));
    }
}
