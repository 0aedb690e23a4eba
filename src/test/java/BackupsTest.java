/** Promises 24 to 26: backups. */
public final class BackupsTest {
    private static final String INDEX = "throws.IndexOutOfBoundsException";
    private static final String STATE = "throws.IllegalStateException";

    private static final Checks CHECKS = new Checks();

    public static void main(String[] args) {
        sixBackupsCanBeTaken();
        bytesOfBothSorts();
        aFileSeenTwiceHasTwoPlaces();
        backupsDoNotChange();
        differencesOfWhatIsSeen();
        differencesOfWhatIsThere();
        emptyFilesHavePlaces();
        layersAddedLaterCount();
        numbersAreChecked();
        CHECKS.end();
    }

    private static void due(Object want, String what, Checks.Call call) {
        CHECKS.due(want, what, call);
    }

    /** A table with files 1 and 2 in layer 0, of 10 and 20 bytes, under layer 1. */
    private static MountTable overlay() {
        MountTable table = new MountTable();
        table.addLayer();
        table.addLayer();
        table.mount(0, 0, -1);
        table.write(0, 1, 10);
        table.write(0, 2, 20);
        table.mount(0, 0, 1);
        return table;
    }

    private static void sixBackupsCanBeTaken() {
        MountTable x = overlay();
        for (int number = 0; number < 6; number++) {
            boolean isOfSeen = number % 2 == 0;
            due(number, "backup", () -> x.backUp(isOfSeen));
        }
        due(STATE, "a seventh of what is seen", () -> x.backUp(true));
        due(STATE, "a seventh of what is there", () -> x.backUp(false));
        due(0, "differences after the last one", () -> x.differences(5));
        due(INDEX, "there is no seventh", () -> x.bytes(6));
    }

    private static void bytesOfBothSorts() {
        MountTable x = overlay();
        x.write(1, 1, 4);
        x.remove(2);
        x.link(1, 3, 1);
        x.write(1, 4444, 100);
        x.backUp(true);
        x.backUp(false);
        due(104, "seen", () -> x.bytes(0));
        due(134, "there", () -> x.bytes(1));
        MountTable none = new MountTable();
        none.backUp(true);
        none.backUp(false);
        due(0, "seen in an empty system", () -> none.bytes(0));
        due(0, "there in an empty system", () -> none.bytes(1));
    }

    private static void aFileSeenTwiceHasTwoPlaces() {
        MountTable x = new MountTable();
        x.addLayer();
        x.mount(1, 0, -1);
        x.mount(2, 0, -1);
        x.write(0, 13, 5);
        x.backUp(true);
        x.backUp(false);
        due(10, "seen at two paths", () -> x.bytes(0));
        due(5, "there once", () -> x.bytes(1));
        x.remove(23);
        due(2, "two places differ", () -> x.differences(0));
        due(1, "one place differs", () -> x.differences(1));
    }

    private static void backupsDoNotChange() {
        MountTable x = overlay();
        x.backUp(true);
        x.write(0, 1, 99);
        x.backUp(true);
        due(30, "before", () -> x.bytes(0));
        due(119, "after", () -> x.bytes(1));
        due(1, "the earlier one differs", () -> x.differences(0));
        due(0, "the later one does not", () -> x.differences(1));
        x.write(2, 1, 10);
        due(0, "the same size again, whoever owns it", () -> x.differences(0));
        due(1, "the later one differs then", () -> x.differences(1));
    }

    private static void differencesOfWhatIsSeen() {
        MountTable x = overlay();
        x.backUp(true);
        due(0, "none", () -> x.differences(0));
        x.write(1, 1, 10);
        due(0, "the same size from another layer", () -> x.differences(0));
        x.write(1, 1, 11);
        due(1, "another size", () -> x.differences(0));
        x.write(1, 3, 5);
        due(2, "a place more", () -> x.differences(0));
        x.remove(2);
        due(3, "a place less", () -> x.differences(0));
        x.link(1, 4, 3);
        due(3, "a link is no file", () -> x.differences(0));
        x.link(1, 1, 3);
        due(3, "a link in place of a file", () -> x.differences(0));
        x.move(0, 4);
        x.move(1, 4);
        due(3, "all is elsewhere: 1 and 2 are gone, 43 is new", () -> x.differences(0));
        x.unmount(0);
        x.unmount(1);
        due(2, "nothing is seen", () -> x.differences(0));
    }

    private static void differencesOfWhatIsThere() {
        MountTable x = overlay();
        x.backUp(false);
        x.remove(1);
        due(0, "a whiteout is no file", () -> x.differences(0));
        x.write(1, 2, 20);
        due(1, "a copy is a place more", () -> x.differences(0));
        x.unmount(1);
        due(1, "mounts do not matter", () -> x.differences(0));
        x.remove(1);
        due(2, "a place less", () -> x.differences(0));
        x.write(0, 2, 21);
        due(3, "another size", () -> x.differences(0));
        x.write(3, 1, 10);
        due(2, "the same size again", () -> x.differences(0));
    }

    private static void emptyFilesHavePlaces() {
        MountTable x = overlay();
        x.backUp(true);
        x.backUp(false);
        x.write(0, 33, 0);
        due(1, "seen", () -> x.differences(0));
        due(1, "there", () -> x.differences(1));
        x.backUp(true);
        x.remove(33);
        due(1, "seen before", () -> x.differences(2));
        due(0, "as at first", () -> x.differences(1));
    }

    private static void layersAddedLaterCount() {
        MountTable x = overlay();
        x.backUp(false);
        for (int layer = 2; layer < 6; layer++) {
            x.addLayer();
            x.mount(4, layer, -1);
            x.write(1, 4444, layer);
        }
        due(4, "a file in each new layer", () -> x.differences(0));
        x.backUp(false);
        due(44, "the bytes of all", () -> x.bytes(1));
    }

    private static void numbersAreChecked() {
        MountTable x = overlay();
        due(INDEX, "bytes of none", () -> x.bytes(0));
        due(INDEX, "differences of none", () -> x.differences(0));
        x.backUp(true);
        for (int number : new int[] {-1, 1, 6, Integer.MAX_VALUE, Integer.MIN_VALUE}) {
            due(INDEX, "bytes of " + number, () -> x.bytes(number));
            due(INDEX, "differences of " + number, () -> x.differences(number));
        }
    }
}
