/** Objects, paths and numbers that several tests use. */
final class Tables {
    /** Numbers that are no path: below 0, a digit 0, a digit above 4, too many digits. */
    static final int[] NO_PATHS = {
        -1, -4, -11, -4444, 5, 9, 10, 15, 40, 50, 51, 101, 110, 145, 404, 440, 500, 1000, 1011, 1045,
        1101, 1110, 1115, 4404, 4440, 4445, 4450, 4544, 5111, 5444, 9999, 10000, 10001, 11110, 11111,
        14444, 40000, 41111, 44444, 111111, 1111111111, Integer.MAX_VALUE, Integer.MIN_VALUE,
    };

    /** Numbers that nothing made bears while there are fewer than three of it. */
    static final int[] NO_NUMBERS = {-1, -2, 3, 5, 6, 7, 8, 9, 255, 256, Integer.MAX_VALUE, Integer.MIN_VALUE};

    /** Numbers that no owner bears. */
    static final int[] NO_OWNERS = {-1, -4, 4, 5, 256, Integer.MAX_VALUE, Integer.MIN_VALUE};

    private Tables() {
    }

    /** All paths, the empty one first, then by their digits. */
    static int[] paths() {
        int[] paths = new int[341];
        int made = 1;
        for (int begun = 0; made < paths.length; begun++) {
            for (int digit = 1; digit <= 4; digit++) {
                paths[made] = paths[begun] * 10 + digit;
                made++;
            }
        }
        return paths;
    }

    /** The digits of a path as text. */
    static String digits(int path) {
        return path == 0 ? "" : String.valueOf(path);
    }

    /** A point with a rest behind it, or -1 if that has more than 4 digits. */
    static int joined(int point, int rest) {
        String digits = digits(point) + digits(rest);
        return digits.length() > 4 ? -1 : digits.isEmpty() ? 0 : Integer.parseInt(digits);
    }

    static MountTable withLayers(int count) {
        MountTable table = new MountTable();
        for (int i = 0; i < count; i++) {
            table.addLayer();
        }
        return table;
    }

    /** Layer 0 alone, mounted at the empty path. */
    static MountTable sole() {
        MountTable table = withLayers(1);
        table.mount(0, 0, -1);
        return table;
    }

    /** Layers 0 to 2, mounted: 0 at the empty path; at 1 layer 1 under layer 2. */
    static MountTable plain() {
        MountTable table = withLayers(3);
        table.mount(0, 0, -1);
        table.mount(1, 1, 2);
        return table;
    }

    /** Layer 0, with the file 2 of owner 3 and 7 bytes, alone as mount 0 and under layer 1 as mount 1. */
    static MountTable overlay() {
        MountTable table = withLayers(2);
        table.mount(0, 0, -1);
        table.write(3, 2, 7);
        table.mount(0, 0, 1);
        return table;
    }

    /**
     * Layers 0 to 2, all unmounted, of which layer 1 has at path 2 what lower names, and
     * layer 2 what upper names: 'f' a file of owner 1 or 2 with 10 or 20 bytes, 'l' a link of
     * that owner to path 4, 'w' a whiteout, '-' nothing. Four mounts were made.
     */
    static MountTable pair(char lower, char upper) {
        MountTable table = withLayers(3);
        table.mount(0, 0, -1);
        table.write(0, 2, 5);
        table.unmount(0);
        put(table, 1, lower);
        put(table, 2, upper);
        return table;
    }

    private static void put(MountTable table, int layer, char kind) {
        int mount = kind == 'w' ? table.mount(0, 0, layer) : table.mount(0, layer, -1);
        if (kind == 'f') {
            table.write(layer, 2, layer * 10);
        } else if (kind == 'l') {
            table.link(layer, 2, 4);
        } else if (kind == 'w') {
            table.remove(2);
        }
        table.unmount(mount);
    }
}
