/** Promises 18 to 23: quotas, bytes and whiteouts. */
public final class QuotasTest {
    private static final String ARGUMENT = "throws.IllegalArgumentException";
    private static final String INDEX = "throws.IndexOutOfBoundsException";
    private static final String OPERATION = "throws.UnsupportedOperationException";

    private static final Checks CHECKS = new Checks();

    public static void main(String[] args) {
        quotasAreToldBack();
        quotasCheckTheirNumbers();
        bothSumsAgree();
        sumsCheckTheirOwner();
        coveredFilesAreHidden();
        aFileShownTwiceIsNotHidden();
        copiesStayCounted();
        whiteoutsAreCounted();
        CHECKS.end();
    }

    private static void due(Object want, String what, Checks.Call call) {
        CHECKS.due(want, what, call);
    }

    private static void quotasAreToldBack() {
        MountTable x = Tables.withLayers(1);
        x.mount(0, 0, -1);
        due(20000, "at first", () -> x.setQuota(3, 99999));
        due(99999, "the largest", () -> x.setQuota(3, 0));
        due(0, "the smallest", () -> x.setQuota(3, 5));
        due(20000, "another's stays", () -> x.setQuota(2, 20000));
        x.write(3, 1, 5);
        due(5, "less than what is used", () -> x.setQuota(3, 1));
        due(5, "takes nothing away", () -> x.used(3));
        due(OPERATION, "but holds for what comes", () -> x.write(3, 2, 0));
        due(1, "down to the quota goes", () -> x.write(3, 1, 1));
    }

    private static void quotasCheckTheirNumbers() {
        MountTable x = new MountTable();
        due(ARGUMENT, "owner -1", () -> x.setQuota(-1, 5));
        due(ARGUMENT, "owner 4", () -> x.setQuota(4, 5));
        due(ARGUMENT, "bytes -1", () -> x.setQuota(0, -1));
        due(ARGUMENT, "bytes 100000", () -> x.setQuota(0, 100000));
        due(20000, "it stayed", () -> x.setQuota(0, 5));
    }

    private static void bothSumsAgree() {
        MountTable x = Tables.withLayers(3);
        x.mount(0, 0, 1);
        x.mount(2, 2, -1);
        x.write(1, 1, 100);
        x.write(1, 21, 10);
        x.write(2, 3, 1);
        x.link(1, 4, 3);
        for (int step = 0; step < 3; step++) {
            int want = step == 0 ? 110 : step == 1 ? 10 : 0;
            due(want, "used", () -> x.used(1));
            due(want, "used by layers", () -> x.usedByLayers(1));
            due(1, "used by another", () -> x.used(2));
            due(1, "by layers by another", () -> x.usedByLayers(2));
            x.remove(step == 0 ? 1 : step == 1 ? 21 : 4);
        }
        x.write(1, 1, 30);
        x.unmount(0);
        due(30, "used without a mount", () -> x.used(1));
        due(30, "by layers without a mount", () -> x.usedByLayers(1));
        x.mount(0, 0, -1);
        x.write(1, 1, 4);
        due(34, "used in three layers", () -> x.used(1));
        due(34, "by layers in three layers", () -> x.usedByLayers(1));
    }

    private static void sumsCheckTheirOwner() {
        MountTable x = new MountTable();
        due(ARGUMENT, "used -1", () -> x.used(-1));
        due(ARGUMENT, "used 4", () -> x.used(4));
        due(ARGUMENT, "by layers -1", () -> x.usedByLayers(-1));
        due(ARGUMENT, "by layers 4", () -> x.usedByLayers(4));
    }

    private static void coveredFilesAreHidden() {
        MountTable x = Tables.withLayers(3);
        x.mount(0, 0, -1);
        x.write(0, 1, 100);
        x.write(0, 12, 20);
        x.write(0, 2, 3);
        due(0, "all are shown", () -> x.hidden());
        x.mount(1, 1, -1);
        due(120, "a mount covers two", () -> x.hidden());
        x.write(1, 12, 7);
        due(120, "its own is shown", () -> x.hidden());
        due(120, "and so when asked again", () -> x.hidden());
        x.mount(0, 0, 2);
        due(7, "a third shows the first two again", () -> x.hidden());
        x.remove(2);
        due(10, "a whiteout hides", () -> x.hidden());
        x.write(0, 1, 50);
        due(110, "a copy upward hides", () -> x.hidden());
        x.unmount(0);
        x.unmount(1);
        x.unmount(2);
        due(180, "without mounts all is hidden", () -> x.hidden());
    }

    private static void aFileShownTwiceIsNotHidden() {
        MountTable x = Tables.withLayers(2);
        x.mount(1, 0, -1);
        x.mount(2, 0, -1);
        x.write(0, 1444, 9);
        x.write(0, 13, 4);
        due(0, "at two paths", () -> x.hidden());
        x.mount(1, 1, -1);
        due(0, "at one path still", () -> x.hidden());
        x.move(1, 22);
        due(9, "the deep one is beyond four digits", () -> x.hidden());
        x.move(1, 2222);
        due(13, "both are", () -> x.hidden());
    }

    private static void copiesStayCounted() {
        MountTable x = Tables.withLayers(2);
        x.mount(0, 0, -1);
        x.write(0, 1, 1);
        x.write(0, 2, 1);
        due(0, "without an upper layer", () -> x.copies());
        x.mount(0, 0, 1);
        x.write(0, 1, 1);
        x.link(0, 2, 1);
        due(2, "by a file and by a link", () -> x.copies());
        x.setQuota(0, 0);
        x.remove(1);
        due(2, "removing is none", () -> x.copies());
        due(OPERATION, "a write that fails", () -> x.write(0, 1, 1));
        x.unmount(1);
        due(2, "they stay counted", () -> x.copies());
    }

    private static void whiteoutsAreCounted() {
        MountTable x = Tables.withLayers(2);
        x.mount(0, 0, -1);
        x.write(0, 1, 1);
        x.write(0, 2, 1);
        x.link(0, 3, 1);
        x.mount(0, 0, 1);
        x.remove(1);
        x.remove(3);
        due(2, "of a file and of a link", () -> x.whiteouts(1));
        due(0, "below", () -> x.whiteouts(0));
        x.link(0, 1, 2);
        due(1, "a link takes one away", () -> x.whiteouts(1));
        x.unmount(1);
        due(1, "they stay in the layer", () -> x.whiteouts(1));
        due(INDEX, "layer -1", () -> x.whiteouts(-1));
        due(INDEX, "layer 2", () -> x.whiteouts(2));
        due(INDEX, "layer 6", () -> x.whiteouts(6));
    }
}
