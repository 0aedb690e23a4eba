/** Objects that several tests begin with. */
final class Tables {
    private Tables() {
    }

    static MountTable withLayers(int count) {
        MountTable table = new MountTable();
        for (int i = 0; i < count; i++) {
            table.addLayer();
        }
        return table;
    }
}
