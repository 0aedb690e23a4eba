import java.util.NoSuchElementException;

/**
 * A system of mounts: layers with files, links and whiteouts, mounts that show them,
 * quotas of owners, and backups.
 *
 * <p>Inside, a path is known by its place: paths in order of length, then of digits,
 * counted from 0 for the empty path to 340 for 4444. A row by place is thus short.
 */
public final class MountTable {
    private static final int NONE = -1;

    private static final int MOST_LAYERS = 6;
    private static final int MOST_MOUNTS = 8;
    private static final int MOST_BACKUPS = 6;
    private static final int MOST_LINKS = 4;
    private static final int MOST_SIZE = 9999;
    private static final int MOST_QUOTA = 99999;
    private static final int FIRST_QUOTA = 20000;
    private static final int OWNERS = 4;

    private static final int MOST_PATH = 4444;
    private static final int PATH_DIGITS = 4;
    private static final int HIGHEST_DIGIT = 4;
    private static final int PLACES = 341;

    private static final int NOTHING = 0;
    private static final int FILE = 1;
    private static final int LINK = 2;
    private static final int WHITEOUT = 3;

    private final Layer[] layers;
    private final Mount[] mounts;
    private final Backup[] backups;
    private final int[] used;
    private final int[] quotas;
    private final int[] servers;
    private final int[] rests;
    private int layerCount;
    private int mountCount;
    private int backupCount;
    private int copyCount;

    public MountTable() {
        layers = new Layer[MOST_LAYERS];
        mounts = new Mount[MOST_MOUNTS];
        backups = new Backup[MOST_BACKUPS];
        used = new int[OWNERS];
        quotas = new int[OWNERS];
        servers = new int[PLACES];
        rests = new int[PLACES];
        for (int owner = 0; owner < OWNERS; owner++) {
            quotas[owner] = FIRST_QUOTA;
        }
        for (int place = 0; place < PLACES; place++) {
            servers[place] = NONE;
        }
    }

    // ---- layers and mounts

    public int addLayer() throws IllegalStateException {
        if (layerCount < 0 || layerCount >= layers.length) {
            throw new IllegalStateException("there are as many layers as can be");
        }
        int number = layerCount;
        layers[number] = new Layer();
        layerCount++;
        return number;
    }

    public int mount(int point, int lower, int upper)
            throws IllegalArgumentException, IndexOutOfBoundsException,
                    UnsupportedOperationException, IllegalStateException {
        boolean hasUpper = upper != NONE;
        if (placeOf(point) == NONE || (hasUpper && lower == upper)) {
            throw new IllegalArgumentException("the point is no path, or both layers are the same");
        }
        if (layerAt(lower) == null || (hasUpper && layerAt(upper) == null)) {
            throw new IndexOutOfBoundsException("there is no such layer");
        }
        if (isUpperOfSome(lower) || (hasUpper && isInSome(upper))) {
            throw new UnsupportedOperationException("a layer is in a mount that is there");
        }
        if (mountCount < 0 || mountCount >= mounts.length) {
            throw new IllegalStateException("as many mounts were made as can be");
        }
        int number = mountCount;
        mounts[number] = new Mount(point, lower, upper);
        mountCount++;
        serveAgain();
        return number;
    }

    public int unmount(int mount) throws IndexOutOfBoundsException {
        checkedMount(mount).isThere = false;
        serveAgain();
        int left = 0;
        for (int number = 0; number < mountCount; number++) {
            if (mountThere(number) != null) {
                left++;
            }
        }
        return left;
    }

    public int move(int mount, int point)
            throws IndexOutOfBoundsException, IllegalArgumentException {
        Mount moved = checkedMount(mount);
        checkedPlace(point);
        int before = moved.point;
        moved.point = point;
        serveAgain();
        return before;
    }

    public boolean setCrossing(int mount, boolean isCrossing) throws IndexOutOfBoundsException {
        Mount changed = checkedMount(mount);
        boolean before = changed.isCrossing;
        changed.isCrossing = isCrossing;
        return before;
    }

    public int served(int path) throws IllegalArgumentException, NoSuchElementException {
        int server = serverAt(checkedPlace(path));
        if (server == NONE) {
            throw new NoSuchElementException("no mount serves the path");
        }
        return server;
    }

    public int covered() {
        int count = 0;
        for (int number = 0; number < mountCount; number++) {
            Mount mount = mountThere(number);
            // Whatever begins with the point of a later mount at or above this one's point
            // is lost to it, so its own point tells for all its paths.
            if (mount != null && serverAt(placeOf(mount.point)) != number) {
                count++;
            }
        }
        return count;
    }

    // ---- files and links

    public int write(int owner, int path, int size)
            throws IllegalArgumentException, NoSuchElementException,
                    UnsupportedOperationException {
        checkOwner(owner);
        if (size < 0 || size > MOST_SIZE) {
            throw new IllegalArgumentException("the size is out of range");
        }
        int place = checkedPlace(path);
        Layer layer = layerToWrite(place);
        int after = usedBy(owner) - layer.bytesOfOwnerAt(owner, restAt(place)) + size;
        if (after > quotaOf(owner)) {
            throw new UnsupportedOperationException("the owner would use more than the quota");
        }
        putAt(place, layer, FILE, owner, size);
        return usedBy(owner);
    }

    public int link(int owner, int path, int target)
            throws IllegalArgumentException, NoSuchElementException {
        checkOwner(owner);
        int place = checkedPlace(path);
        checkedPlace(target);
        putAt(place, layerToWrite(place), LINK, owner, target);
        int links = 0;
        for (int number = 0; number < layerCount; number++) {
            Layer layer = layerAt(number);
            if (layer != null) {
                links += layer.countOf(LINK);
            }
        }
        return links;
    }

    public int remove(int path) throws IllegalArgumentException, NoSuchElementException {
        int place = checkedPlace(path);
        int bytes = checkedShown(place).bytesAt(restAt(place));
        Mount mount = mountThere(serverAt(place));
        if (mount != null) {
            boolean staysBelow = mount.upper != NONE && isThing(kindIn(mount.lower, restAt(place)));
            int left = staysBelow ? WHITEOUT : NOTHING;
            change(layerAt(mount.written()), restAt(place), left, 0, 0);
        }
        return bytes;
    }

    public char shows(int path) throws IllegalArgumentException {
        int place = checkedPlace(path);
        switch (kindIn(layerShown(place), restAt(place))) {
            case FILE:
                return 'f';
            case LINK:
                return 'l';
            default:
                return '-';
        }
    }

    public int layerOf(int path) throws IllegalArgumentException, NoSuchElementException {
        int number = layerShown(checkedPlace(path));
        if (number == NONE) {
            throw new NoSuchElementException("the path shows nothing");
        }
        return number;
    }

    public int end(int path)
            throws IllegalArgumentException, UnsupportedOperationException,
                    IllegalStateException {
        checkedPlace(path);
        return endOfLinks(path);
    }

    public int size(int path)
            throws IllegalArgumentException, UnsupportedOperationException,
                    IllegalStateException, NoSuchElementException {
        checkedPlace(path);
        int size = shownFileSize(placeOf(endOfLinks(path)));
        if (size == NONE) {
            throw new NoSuchElementException("the path ends at one that shows nothing");
        }
        return size;
    }

    public int sizeByWalking(int path) throws IllegalArgumentException {
        checkedPlace(path);
        int size = NONE;
        for (int number = 0; number < mountCount; number++) {
            Mount mount = mountThere(number);
            int rest = mount == null ? NONE : restBehind(mount.point, path);
            if (rest != NONE) {
                // A mount made later hides what earlier ones have, even by nothing.
                size = fileSizeIn(layerShownBy(mount, placeOf(rest)), placeOf(rest));
            }
        }
        return size;
    }

    public int ownerOf(int path) throws IllegalArgumentException, NoSuchElementException {
        int place = checkedPlace(path);
        return checkedShown(place).ownerAt(restAt(place));
    }

    // ---- quotas

    public int setQuota(int owner, int bytes) throws IllegalArgumentException {
        checkOwner(owner);
        if (bytes < 0 || bytes > MOST_QUOTA) {
            throw new IllegalArgumentException("the quota is out of range");
        }
        int before = quotaOf(owner);
        if (isOwner(owner)) {
            quotas[owner] = bytes;
        }
        return before;
    }

    public int used(int owner) throws IllegalArgumentException {
        checkOwner(owner);
        return usedBy(owner);
    }

    public int usedByLayers(int owner) throws IllegalArgumentException {
        checkOwner(owner);
        int bytes = 0;
        for (int number = 0; number < layerCount; number++) {
            Layer layer = layerAt(number);
            if (layer != null) {
                bytes += layer.bytesOfOwner(owner);
            }
        }
        return bytes;
    }

    public int hidden() {
        return allBytes() - shownBytes();
    }

    public int copies() {
        return copyCount;
    }

    public int whiteouts(int layer) throws IndexOutOfBoundsException {
        return checkedLayer(layer).countOf(WHITEOUT);
    }

    // ---- backups

    public int backUp(boolean isOfSeen) throws IllegalStateException {
        if (backupCount < 0 || backupCount >= backups.length) {
            throw new IllegalStateException("there are as many backups as can be");
        }
        Backup backup = new Backup(isOfSeen);
        for (int spot = 0; spot < backup.sizes.length; spot++) {
            backup.sizes[spot] = sizeNow(isOfSeen, spot);
        }
        int number = backupCount;
        backups[number] = backup;
        backupCount++;
        return number;
    }

    public int bytes(int backup) throws IndexOutOfBoundsException {
        return checkedBackup(backup).sum();
    }

    public int differences(int backup) throws IndexOutOfBoundsException {
        Backup before = checkedBackup(backup);
        int count = 0;
        for (int spot = 0; spot < before.sizes.length; spot++) {
            if (before.sizes[spot] != sizeNow(before.isOfSeen, spot)) {
                count++;
            }
        }
        return count;
    }

    // ---- figures

    public float shownShare() throws ArithmeticException {
        int all = allBytes();
        if (all == 0) {
            throw new ArithmeticException("all files together have no bytes");
        }
        return (float) shownBytes() / (float) all;
    }

    public double meanSize(int layer) throws IndexOutOfBoundsException, ArithmeticException {
        Layer asked = checkedLayer(layer);
        int files = asked.countOf(FILE);
        if (files == 0) {
            throw new ArithmeticException("the layer has no files");
        }
        return (double) asked.allBytesOfFiles() / (double) files;
    }

    // ---- paths

    /** The place of a path, or NONE if the number is no path. */
    private static int placeOf(int path) {
        if (path < 0 || path > MOST_PATH) {
            return NONE;
        }
        int place = 0;
        for (int unit = 1000; unit > 0; unit /= 10) {
            int digit = path / unit % 10;
            boolean isZeroInside = digit == 0 && place > 0;
            if (digit > HIGHEST_DIGIT || isZeroInside) {
                return NONE;
            }
            place = place * HIGHEST_DIGIT + digit;
        }
        return place;
    }

    private static boolean isPlace(int place) {
        return place >= 0 && place < PLACES;
    }

    private static int checkedPlace(int path) {
        int place = placeOf(path);
        if (place == NONE) {
            throw new IllegalArgumentException("the number is no path");
        }
        return place;
    }

    /** What is left of a path behind a point, or NONE if it does not begin with the point. */
    private static int restBehind(int point, int path) {
        int unit = 1;
        for (int digits = 0; digits <= PATH_DIGITS; digits++) {
            if (path / unit == point) {
                return path % unit;
            }
            unit *= 10;
        }
        return NONE;
    }

    // ---- owners

    private static boolean isOwner(int owner) {
        return owner >= 0 && owner < OWNERS;
    }

    private static void checkOwner(int owner) {
        if (!isOwner(owner)) {
            throw new IllegalArgumentException("the owner is out of range");
        }
    }

    private int usedBy(int owner) {
        return isOwner(owner) ? used[owner] : 0;
    }

    private int quotaOf(int owner) {
        return isOwner(owner) ? quotas[owner] : 0;
    }

    private void use(int owner, int bytes) {
        if (isOwner(owner)) {
            used[owner] += bytes;
        }
    }

    private int allBytes() {
        int bytes = 0;
        for (int owner = 0; owner < OWNERS; owner++) {
            bytes += usedBy(owner);
        }
        return bytes;
    }

    // ---- what is made, by its number

    private Layer layerAt(int number) {
        return number >= 0 && number < layers.length ? layers[number] : null;
    }

    private Layer checkedLayer(int number) {
        Layer layer = layerAt(number);
        if (layer == null) {
            throw new IndexOutOfBoundsException("there is no such layer");
        }
        return layer;
    }

    /** The mount of a number, or null if it was not made or is unmounted. */
    private Mount mountThere(int number) {
        if (number < 0 || number >= mounts.length) {
            return null;
        }
        Mount mount = mounts[number];
        return mount != null && mount.isThere ? mount : null;
    }

    private Mount checkedMount(int number) {
        Mount mount = mountThere(number);
        if (mount == null) {
            throw new IndexOutOfBoundsException("there is no such mount");
        }
        return mount;
    }

    private Backup checkedBackup(int number) {
        Backup backup = number >= 0 && number < backups.length ? backups[number] : null;
        if (backup == null) {
            throw new IndexOutOfBoundsException("there is no such backup");
        }
        return backup;
    }

    // ---- which mount serves a place

    private boolean isUpperOfSome(int layer) {
        for (int number = 0; number < mountCount; number++) {
            Mount mount = mountThere(number);
            if (mount != null && mount.upper == layer) {
                return true;
            }
        }
        return false;
    }

    private boolean isInSome(int layer) {
        for (int number = 0; number < mountCount; number++) {
            Mount mount = mountThere(number);
            if (mount != null && (mount.upper == layer || mount.lower == layer)) {
                return true;
            }
        }
        return false;
    }

    /** Settles anew which mount serves each place; later mounts go over earlier ones. */
    private void serveAgain() {
        for (int place = 0; place < PLACES; place++) {
            servers[place] = NONE;
            rests[place] = 0;
        }
        for (int number = 0; number < mountCount; number++) {
            Mount mount = mountThere(number);
            if (mount != null) {
                serveBehind(placeOf(mount.point), number);
            }
        }
    }

    /** Lets a mount serve all places that begin with a point: one run of places a length. */
    private void serveBehind(int point, int number) {
        int firstRest = 0;
        int runLength = 1;
        for (int digits = 0; digits <= PATH_DIGITS; digits++) {
            int shift = point * runLength;
            for (int rest = firstRest; rest < firstRest + runLength; rest++) {
                int place = shift + rest;
                if (isPlace(place)) {
                    servers[place] = number;
                    rests[place] = rest;
                }
            }
            firstRest += runLength;
            runLength *= HIGHEST_DIGIT;
        }
    }

    private int serverAt(int place) {
        return isPlace(place) ? servers[place] : NONE;
    }

    private int restAt(int place) {
        return isPlace(place) ? rests[place] : 0;
    }

    // ---- what a place shows

    private static boolean isThing(int kind) {
        return kind == FILE || kind == LINK;
    }

    private int kindIn(int layerNumber, int rest) {
        Layer layer = layerAt(layerNumber);
        return layer == null ? NOTHING : layer.kindAt(rest);
    }

    private int fileSizeIn(int layerNumber, int rest) {
        Layer layer = layerAt(layerNumber);
        return layer == null ? NONE : layer.fileSizeAt(rest);
    }

    /** The number of the layer in which a mount finds a file or a link, or NONE. */
    private int layerShownBy(Mount mount, int rest) {
        if (mount == null) {
            return NONE;
        }
        int kindAbove = kindIn(mount.upper, rest);
        if (kindAbove != NOTHING) {
            return isThing(kindAbove) ? mount.upper : NONE;
        }
        return isThing(kindIn(mount.lower, rest)) ? mount.lower : NONE;
    }

    private int layerShown(int place) {
        return layerShownBy(mountThere(serverAt(place)), restAt(place));
    }

    private Layer checkedShown(int place) {
        Layer layer = layerAt(layerShown(place));
        if (layer == null) {
            throw new NoSuchElementException("the path shows nothing");
        }
        return layer;
    }

    private int shownFileSize(int place) {
        return fileSizeIn(layerShown(place), restAt(place));
    }

    private int shownBytes() {
        for (int number = 0; number < layerCount; number++) {
            Layer layer = layerAt(number);
            if (layer != null) {
                layer.forgetCounted();
            }
        }
        int bytes = 0;
        for (int place = 1; place < PLACES; place++) {
            Layer layer = layerAt(layerShown(place));
            if (layer != null) {
                bytes += layer.bytesNotYetCounted(restAt(place));
            }
        }
        return bytes;
    }

    /** The size of the file at a spot of a backup taken now, or NONE. */
    private int sizeNow(boolean isOfSeen, int spot) {
        return isOfSeen ? shownFileSize(spot) : fileSizeIn(spot / PLACES, spot % PLACES);
    }

    private int endOfLinks(int path) {
        int at = path;
        for (int links = 0; links <= MOST_LINKS; links++) {
            int place = placeOf(at);
            Layer layer = layerAt(layerShown(place));
            if (layer == null || layer.kindAt(restAt(place)) != LINK) {
                return at;
            }
            int target = layer.valueAt(restAt(place));
            if (!mayLead(place, placeOf(target))) {
                throw new UnsupportedOperationException("the mount of a link is not crossing");
            }
            at = target;
        }
        throw new IllegalStateException("the path leads over too many links");
    }

    private boolean mayLead(int from, int to) {
        Mount mount = mountThere(serverAt(from));
        return mount != null && (mount.isCrossing || serverAt(from) == serverAt(to));
    }

    // ---- changes

    /** The layer into which goes what is written at a place. */
    private Layer layerToWrite(int place) {
        Mount mount = mountThere(serverAt(place));
        Layer layer = mount == null ? null : layerAt(mount.written());
        if (layer == null || restAt(place) == 0) {
            throw new NoSuchElementException("no mount serves the path, or its rest is empty");
        }
        return layer;
    }

    private void putAt(int place, Layer layer, int kind, int owner, int value) {
        Mount mount = mountThere(serverAt(place));
        if (mount != null && mount.upper != NONE && layerShown(place) == mount.lower) {
            copyCount++;
        }
        change(layer, restAt(place), kind, owner, value);
    }

    /** The one way to change a layer, so that what owners use stays in step. */
    private void change(Layer layer, int rest, int kind, int owner, int value) {
        if (layer != null) {
            use(layer.ownerAt(rest), -layer.bytesAt(rest));
            layer.put(rest, kind, owner, value);
            use(owner, layer.bytesAt(rest));
        }
    }

    /** What stands in one layer, by its place in it; the empty path's place stays empty. */
    private static final class Layer {
        private final int[] kinds;
        private final int[] owners;
        /** The size of a file, the target of a link. */
        private final int[] values;
        private final boolean[] isCounted;

        Layer() {
            kinds = new int[PLACES];
            owners = new int[PLACES];
            values = new int[PLACES];
            isCounted = new boolean[PLACES];
        }

        int kindAt(int place) {
            return place >= 0 && place < kinds.length ? kinds[place] : NOTHING;
        }

        int ownerAt(int place) {
            return place >= 0 && place < owners.length ? owners[place] : 0;
        }

        int valueAt(int place) {
            return place >= 0 && place < values.length ? values[place] : 0;
        }

        /** The size of a file, or NONE where there is none. */
        int fileSizeAt(int place) {
            return kindAt(place) == FILE ? valueAt(place) : NONE;
        }

        int bytesAt(int place) {
            return kindAt(place) == FILE ? valueAt(place) : 0;
        }

        int bytesOfOwnerAt(int owner, int place) {
            return ownerAt(place) == owner ? bytesAt(place) : 0;
        }

        void put(int place, int kind, int owner, int value) {
            if (isPlace(place)) {
                kinds[place] = kind;
                owners[place] = owner;
                values[place] = value;
            }
        }

        int countOf(int kind) {
            int count = 0;
            for (int place = 0; place < PLACES; place++) {
                if (kinds[place] == kind) {
                    count++;
                }
            }
            return count;
        }

        int bytesOfOwner(int owner) {
            int bytes = 0;
            for (int place = 0; place < PLACES; place++) {
                bytes += bytesOfOwnerAt(owner, place);
            }
            return bytes;
        }

        int allBytesOfFiles() {
            int bytes = 0;
            for (int place = 0; place < PLACES; place++) {
                bytes += bytesAt(place);
            }
            return bytes;
        }

        void forgetCounted() {
            for (int place = 0; place < PLACES; place++) {
                isCounted[place] = false;
            }
        }

        /** The bytes at a place the first time it is asked for, and 0 from then on. */
        int bytesNotYetCounted(int place) {
            if (!isPlace(place) || isCounted[place]) {
                return 0;
            }
            isCounted[place] = true;
            return bytesAt(place);
        }
    }

    /** A mount, which keeps its number when it is moved or unmounted. */
    private static final class Mount {
        private final int lower;
        private final int upper;
        private int point;
        private boolean isThere;
        private boolean isCrossing;

        Mount(int point, int lower, int upper) {
            this.point = point;
            this.lower = lower;
            this.upper = upper;
            isThere = true;
        }

        int written() {
            return upper == NONE ? lower : upper;
        }
    }

    /** The sizes of files by spot, NONE for no file: a spot is a place, of all layers in turn. */
    private static final class Backup {
        private final boolean isOfSeen;
        private final int[] sizes;

        Backup(boolean isOfSeen) {
            this.isOfSeen = isOfSeen;
            sizes = new int[isOfSeen ? PLACES : MOST_LAYERS * PLACES];
        }

        int sum() {
            int sum = 0;
            for (int spot = 0; spot < sizes.length; spot++) {
                sum += sizes[spot] == NONE ? 0 : sizes[spot];
            }
            return sum;
        }
    }
}
