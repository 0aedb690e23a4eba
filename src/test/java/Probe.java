import java.util.function.Supplier;

/** All that can be asked of an object, each part of it of an object of its own. */
final class Probe {
    /** Something asked of an object by one number. */
    private interface Asking {
        Object of(MountTable table, int number);
    }

    private static final Asking[] OF_PATHS = {
        MountTable::served, MountTable::shows, MountTable::layerOf, MountTable::end,
        MountTable::size, MountTable::sizeByWalking, MountTable::ownerOf,
    };

    private static final Asking[] OF_NUMBERS = {
        MountTable::whiteouts, MountTable::meanSize, MountTable::bytes, MountTable::differences,
        MountTable::used, MountTable::usedByLayers,
        (table, number) -> table.setQuota(number, 99999),
        (table, number) -> table.setCrossing(number, true),
        (table, number) -> table.move(number, 4444),
    };

    private Probe() {
    }

    /** The answers as text: two objects that answer alike in all this hold the same. */
    static String of(Supplier<MountTable> maker) {
        StringBuilder told = new StringBuilder();
        for (Asking asking : OF_PATHS) {
            tell(told, maker.get(), asking, Tables.paths());
        }
        for (Asking asking : OF_NUMBERS) {
            tell(told, maker.get(), asking, new int[] {0, 1, 2, 3, 4, 5, 6, 7});
        }
        tellTotals(told, maker.get());
        tellWhatComesNext(told, maker.get());
        return told.toString();
    }

    private static void tell(StringBuilder told, MountTable table, Asking asking, int[] numbers) {
        for (int number : numbers) {
            told.append(Checks.told(() -> asking.of(table, number))).append(' ');
        }
    }

    private static void tellTotals(StringBuilder told, MountTable table) {
        told.append(Checks.told(() -> table.covered())).append(' ');
        told.append(Checks.told(() -> table.hidden())).append(' ');
        told.append(Checks.told(() -> table.copies())).append(' ');
        told.append(Checks.told(() -> table.shownShare())).append(' ');
    }

    /** The numbers that the next backup, layer, mount and link get tell how many there are. */
    private static void tellWhatComesNext(StringBuilder told, MountTable table) {
        told.append(Checks.told(() -> table.backUp(true))).append(' ');
        told.append(Checks.told(() -> table.addLayer())).append(' ');
        told.append(Checks.told(() -> table.link(0, 4321, 0))).append(' ');
        told.append(Checks.told(() -> table.mount(3, 0, -1))).append(' ');
        told.append(Checks.told(() -> table.unmount(0))).append(' ');
    }
}
