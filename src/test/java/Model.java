import java.util.ArrayList;
import java.util.Collection;
import java.util.HashMap;
import java.util.HashSet;
import java.util.List;
import java.util.Map;
import java.util.NoSuchElementException;
import java.util.Set;

/**
 * The document once more, as slow and plain as can be: paths are texts, nothing is kept that
 * can be found again. It answers what MountTable has to answer.
 */
final class Model {
    private static final class Thing {
        char kind;
        int owner;
        int size;
        String target;

        Thing(char kind, int owner, int size, String target) {
            this.kind = kind;
            this.owner = owner;
            this.size = size;
            this.target = target;
        }
    }

    private static final class Mounted {
        String point;
        int lower;
        int upper;
        boolean isThere = true;
        boolean isCrossing;
    }

    /** A file or link with where it was found. */
    private static final class Found {
        int layer;
        String rest;
        Thing thing;
    }

    private final List<Map<String, Thing>> layers = new ArrayList<>();
    private final List<Mounted> mounts = new ArrayList<>();
    private final List<Map<String, Integer>> backups = new ArrayList<>();
    private final List<Boolean> sorts = new ArrayList<>();
    private final int[] quotas = {20000, 20000, 20000, 20000};
    private int copies;

    private static boolean isPath(int number) {
        return number == 0 || String.valueOf(number).matches("[1-4]{1,4}");
    }

    private static String path(int number) {
        must(isPath(number));
        return number == 0 ? "" : String.valueOf(number);
    }

    private static int number(String path) {
        return path.isEmpty() ? 0 : Integer.parseInt(path);
    }

    private static void must(boolean isRight) {
        if (!isRight) {
            throw new IllegalArgumentException();
        }
    }

    private static void mustBeThere(boolean isThere) {
        if (!isThere) {
            throw new IndexOutOfBoundsException();
        }
    }

    private static void mustBeFound(boolean isFound) {
        if (!isFound) {
            throw new NoSuchElementException();
        }
    }

    private static void mayBe(boolean isAllowed) {
        if (!isAllowed) {
            throw new UnsupportedOperationException();
        }
    }

    private static void mustFit(boolean isRoom) {
        if (!isRoom) {
            throw new IllegalStateException();
        }
    }

    private static List<String> allPaths() {
        List<String> paths = new ArrayList<>();
        for (int number = 0; number <= 4444; number++) {
            if (isPath(number)) {
                paths.add(path(number));
            }
        }
        return paths;
    }

    private Mounted there(int mount) {
        mustBeThere(mount >= 0 && mount < mounts.size() && mounts.get(mount).isThere);
        return mounts.get(mount);
    }

    private int server(String path) {
        int server = -1;
        for (Mounted mount : mounts) {
            if (mount.isThere && path.startsWith(mount.point)) {
                server = mounts.indexOf(mount);
            }
        }
        return server;
    }

    private Found found(String path) {
        int server = server(path);
        if (server < 0) {
            return null;
        }
        Mounted mount = mounts.get(server);
        Found found = new Found();
        found.rest = path.substring(mount.point.length());
        found.layer = mount.upper >= 0 && layers.get(mount.upper).containsKey(found.rest) ? mount.upper : mount.lower;
        found.thing = layers.get(found.layer).get(found.rest);
        return found.thing == null || found.thing.kind == 'w' ? null : found;
    }

    private Found mustShow(int path) {
        Found found = found(path(path));
        mustBeFound(found != null);
        return found;
    }

    int addLayer() {
        mustFit(layers.size() < 6);
        layers.add(new HashMap<>());
        return layers.size() - 1;
    }

    int mount(int point, int lower, int upper) {
        must(isPath(point) && (upper == -1 || lower != upper));
        mustBeThere(lower >= 0 && lower < layers.size() && upper >= -1 && upper < layers.size());
        for (Mounted mount : mounts) {
            if (mount.isThere) {
                mayBe(mount.upper == -1 || mount.upper != lower && mount.upper != upper);
                mayBe(upper == -1 || mount.lower != upper);
            }
        }
        mustFit(mounts.size() < 8);
        Mounted made = new Mounted();
        made.point = path(point);
        made.lower = lower;
        made.upper = upper;
        mounts.add(made);
        return mounts.size() - 1;
    }

    int unmount(int mount) {
        there(mount).isThere = false;
        int left = 0;
        for (Mounted other : mounts) {
            left += other.isThere ? 1 : 0;
        }
        return left;
    }

    int move(int mount, int point) {
        Mounted moved = there(mount);
        String before = moved.point;
        moved.point = path(point);
        return number(before);
    }

    boolean setCrossing(int mount, boolean isCrossing) {
        boolean before = there(mount).isCrossing;
        there(mount).isCrossing = isCrossing;
        return before;
    }

    int served(int path) {
        int server = server(path(path));
        mustBeFound(server >= 0);
        return server;
    }

    int covered() {
        Set<Integer> serving = new HashSet<>();
        for (String path : allPaths()) {
            serving.add(server(path));
        }
        int covered = 0;
        for (int mount = 0; mount < mounts.size(); mount++) {
            covered += mounts.get(mount).isThere && !serving.contains(mount) ? 1 : 0;
        }
        return covered;
    }

    private void put(String path, Thing thing, boolean isChecked) {
        int server = server(path);
        mustBeFound(server >= 0 && !path.equals(mounts.get(server).point));
        Mounted mount = mounts.get(server);
        String rest = path.substring(mount.point.length());
        Found found = found(path);
        Map<String, Thing> layer = layers.get(mount.upper < 0 ? mount.lower : mount.upper);
        Thing before = layer.put(rest, thing);
        if (isChecked && used(thing.owner) > quotas[thing.owner]) {
            if (before == null) {
                layer.remove(rest);
            } else {
                layer.put(rest, before);
            }
            mayBe(false);
        }
        copies += mount.upper >= 0 && found != null && found.layer == mount.lower ? 1 : 0;
    }

    int write(int owner, int path, int size) {
        must(owner >= 0 && owner <= 3 && size >= 0 && size <= 9999);
        put(path(path), new Thing('f', owner, size, null), true);
        return used(owner);
    }

    int link(int owner, int path, int target) {
        must(owner >= 0 && owner <= 3);
        String to = path(target);
        put(path(path), new Thing('l', owner, 0, to), false);
        int links = 0;
        for (Map<String, Thing> layer : layers) {
            links += count(layer, 'l');
        }
        return links;
    }

    private static int count(Map<String, Thing> layer, char kind) {
        int count = 0;
        for (Thing thing : layer.values()) {
            count += thing.kind == kind ? 1 : 0;
        }
        return count;
    }

    int remove(int path) {
        Found found = mustShow(path);
        Mounted mount = mounts.get(server(path(path)));
        if (found.layer == mount.upper || mount.upper < 0) {
            layers.get(found.layer).remove(found.rest);
        }
        // Where something would still be shown, only a whiteout removes it.
        if (found(path(path)) != null) {
            layers.get(mount.upper).put(found.rest, new Thing('w', -1, 0, null));
        }
        return found.thing.size;
    }

    char shows(int path) {
        Found found = found(path(path));
        return found == null ? '-' : found.thing.kind;
    }

    int layerOf(int path) {
        return mustShow(path).layer;
    }

    int end(int path) {
        String at = path(path);
        int over = 0;
        while (true) {
            Found found = found(at);
            if (found == null || found.thing.kind != 'l') {
                return number(at);
            }
            String to = found.thing.target;
            mayBe(server(to) == server(at) || mounts.get(server(at)).isCrossing);
            over++;
            mustFit(over <= 4);
            at = to;
        }
    }

    int size(int path) {
        return mustShow(end(path)).thing.size;
    }

    int sizeByWalking(int path) {
        return shows(path) == 'f' ? found(path(path)).thing.size : -1;
    }

    int ownerOf(int path) {
        return mustShow(path).thing.owner;
    }

    int setQuota(int owner, int bytes) {
        must(owner >= 0 && owner <= 3 && bytes >= 0 && bytes <= 99999);
        int before = quotas[owner];
        quotas[owner] = bytes;
        return before;
    }

    int used(int owner) {
        must(owner >= 0 && owner <= 3);
        int bytes = 0;
        for (Map<String, Thing> layer : layers) {
            for (Thing thing : layer.values()) {
                bytes += thing.owner == owner ? thing.size : 0;
            }
        }
        return bytes;
    }

    private int all() {
        return used(0) + used(1) + used(2) + used(3);
    }

    private int shown() {
        Set<Thing> shown = new HashSet<>();
        for (String path : allPaths()) {
            Found found = found(path);
            if (found != null) {
                shown.add(found.thing);
            }
        }
        int bytes = 0;
        for (Thing thing : shown) {
            bytes += thing.size;
        }
        return bytes;
    }

    int hidden() {
        return all() - shown();
    }

    int copies() {
        return copies;
    }

    private Map<String, Thing> layer(int layer) {
        mustBeThere(layer >= 0 && layer < layers.size());
        return layers.get(layer);
    }

    int whiteouts(int layer) {
        return count(layer(layer), 'w');
    }

    private Map<String, Integer> taken(boolean isOfSeen) {
        Map<String, Integer> sizes = new HashMap<>();
        for (String path : allPaths()) {
            Found found = found(path);
            if (isOfSeen && found != null && found.thing.kind == 'f') {
                sizes.put(path, found.thing.size);
            }
            for (int layer = 0; !isOfSeen && layer < layers.size(); layer++) {
                Thing thing = layers.get(layer).get(path);
                if (thing != null && thing.kind == 'f') {
                    sizes.put(layer + ":" + path, thing.size);
                }
            }
        }
        return sizes;
    }

    int backUp(boolean isOfSeen) {
        mustFit(backups.size() < 6);
        backups.add(taken(isOfSeen));
        sorts.add(isOfSeen);
        return backups.size() - 1;
    }

    private Map<String, Integer> backup(int backup) {
        mustBeThere(backup >= 0 && backup < backups.size());
        return backups.get(backup);
    }

    int bytes(int backup) {
        return sum(backup(backup).values());
    }

    private static int sum(Collection<Integer> sizes) {
        int sum = 0;
        for (int size : sizes) {
            sum += size;
        }
        return sum;
    }

    int differences(int backup) {
        Map<String, Integer> before = backup(backup);
        Map<String, Integer> now = taken(sorts.get(backup));
        Set<String> places = new HashSet<>(before.keySet());
        places.addAll(now.keySet());
        int count = 0;
        for (String place : places) {
            count += before.containsKey(place) && before.get(place).equals(now.get(place)) ? 0 : 1;
        }
        return count;
    }

    float shownShare() {
        if (all() == 0) {
            throw new ArithmeticException();
        }
        return (float) shown() / (float) all();
    }

    double meanSize(int layer) {
        int sum = 0;
        for (Thing thing : layer(layer).values()) {
            sum += thing.size;
        }
        if (count(layer(layer), 'f') == 0) {
            throw new ArithmeticException();
        }
        return (double) sum / (double) count(layer(layer), 'f');
    }
}
