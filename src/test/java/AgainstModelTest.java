/** Long runs of calls, the same ones each time, answered by the program and by the model. */
public final class AgainstModelTest {
    private static final int RUNS = 600;
    private static final int CALLS = 512;

    private static final Checks CHECKS = new Checks();

    private final MountTable table = new MountTable();
    private final Model model = new Model();
    private final int run;
    /** How many digits paths have and how high they go: narrow runs meet the same paths often. */
    private final int length;
    private final int highest;
    private long state;

    private AgainstModelTest(int run) {
        this.run = run;
        state = run * 7919L + 17;
        length = 1 + run % 4;
        highest = 1 + run / 4 % 4;
    }

    public static void main(String[] args) {
        for (int run = 0; run < RUNS; run++) {
            new AgainstModelTest(run).go();
        }
        CHECKS.end();
    }

    private void go() {
        for (int call = 0; call < CALLS; call++) {
            String what = "run " + run + ", call " + call + ": ";
            if (call < 12 && run % 5 > 0) {
                makeRoom(what);
            } else {
                callAny(what, below(100));
            }
        }
    }

    /** A number from 0 to one below the bound, by a plain congruence. */
    private int below(int bound) {
        state = state * 6364136223846793005L + 1442695040888963407L;
        return (int) ((state >>> 33) % bound);
    }

    private int path() {
        if (below(40) == 0) {
            return new int[] {-1, 5, 10, 202, 4445, 11111, 1000, Integer.MAX_VALUE}[below(8)];
        }
        int path = 0;
        for (int digits = below(length + 1); digits > 0; digits--) {
            path = path * 10 + 1 + below(highest);
        }
        return path;
    }

    private int point() {
        return below(3) == 0 ? path() : new int[] {0, 0, 1, 1, 2, 11}[below(6)];
    }

    private int owner() {
        return below(40) == 0 ? below(2) * 5 - 1 : below(4);
    }

    private int size() {
        return below(40) == 0 ? below(2) * 10001 - 1 : below(3) == 0 ? below(10000) : below(3);
    }

    private int layer() {
        return below(8) - 1;
    }

    private int mount() {
        return below(10) - 1;
    }

    private void due(String what, Checks.Call got, Checks.Call want) {
        CHECKS.due(Checks.told(want), what, got);
    }

    private void makeRoom(String what) {
        if (below(2) == 0) {
            due(what + "addLayer()", () -> table.addLayer(), () -> model.addLayer());
        } else {
            callMount(what);
        }
    }

    private void callMount(String what) {
        int point = point();
        int lower = layer();
        int upper = below(3) == 0 ? -1 : layer();
        due(what + "mount(" + point + ", " + lower + ", " + upper + ")",
                () -> table.mount(point, lower, upper), () -> model.mount(point, lower, upper));
    }

    private void callAny(String what, int choice) {
        if (choice < 30) {
            callChange(what, choice);
        } else if (choice < 48) {
            callMounts(what, choice);
        } else if (choice < 78) {
            callPath(what, path(), choice % 8);
        } else {
            callFigure(what, below(12));
        }
    }

    private void callChange(String what, int choice) {
        int owner = owner();
        int path = path();
        if (choice < 14) {
            int size = size();
            due(what + "write(" + owner + ", " + path + ", " + size + ")",
                    () -> table.write(owner, path, size), () -> model.write(owner, path, size));
        } else if (choice < 22) {
            int target = path();
            due(what + "link(" + owner + ", " + path + ", " + target + ")",
                    () -> table.link(owner, path, target), () -> model.link(owner, path, target));
        } else {
            due(what + "remove(" + path + ")", () -> table.remove(path), () -> model.remove(path));
        }
    }

    private void callMounts(String what, int choice) {
        int mount = mount();
        boolean isCrossing = below(3) > 0;
        int point = point();
        if (choice < 34) {
            callMount(what);
        } else if (choice < 36) {
            due(what + "unmount(" + mount + ")", () -> table.unmount(mount), () -> model.unmount(mount));
        } else if (choice < 40) {
            due(what + "move(" + mount + ", " + point + ")",
                    () -> table.move(mount, point), () -> model.move(mount, point));
        } else if (choice < 44) {
            due(what + "setCrossing(" + mount + ", " + isCrossing + ")",
                    () -> table.setCrossing(mount, isCrossing), () -> model.setCrossing(mount, isCrossing));
        } else if (choice < 46) {
            due(what + "addLayer()", () -> table.addLayer(), () -> model.addLayer());
        } else {
            due(what + "backUp(" + isCrossing + ")",
                    () -> table.backUp(isCrossing), () -> model.backUp(isCrossing));
        }
    }

    private void callPath(String what, int path, int choice) {
        String told = what + "of path " + path + ": ";
        switch (choice) {
            case 0 -> due(told + "served", () -> table.served(path), () -> model.served(path));
            case 1 -> due(told + "shows", () -> table.shows(path), () -> model.shows(path));
            case 2 -> due(told + "layerOf", () -> table.layerOf(path), () -> model.layerOf(path));
            case 3, 7 -> due(told + "end", () -> table.end(path), () -> model.end(path));
            case 4 -> due(told + "size", () -> table.size(path), () -> model.size(path));
            case 5 -> due(told + "sizeByWalking", () -> table.sizeByWalking(path), () -> model.sizeByWalking(path));
            default -> due(told + "ownerOf", () -> table.ownerOf(path), () -> model.ownerOf(path));
        }
    }

    private void callFigure(String what, int choice) {
        int owner = owner();
        int number = layer();
        int quota = below(20) == 0 ? below(2) * 100001 - 1 : below(3) == 0 ? 99999 : below(30000);
        switch (choice) {
            case 0 -> due(what + "setQuota(" + owner + ", " + quota + ")",
                    () -> table.setQuota(owner, quota), () -> model.setQuota(owner, quota));
            case 1 -> due(what + "used(" + owner + ")", () -> table.used(owner), () -> model.used(owner));
            case 2 -> due(what + "usedByLayers(" + owner + ")",
                    () -> table.usedByLayers(owner), () -> model.used(owner));
            case 3 -> due(what + "hidden()", () -> table.hidden(), () -> model.hidden());
            case 4 -> due(what + "copies()", () -> table.copies(), () -> model.copies());
            case 5 -> due(what + "whiteouts(" + number + ")",
                    () -> table.whiteouts(number), () -> model.whiteouts(number));
            case 6 -> due(what + "bytes(" + number + ")", () -> table.bytes(number), () -> model.bytes(number));
            case 7, 8 -> due(what + "differences(" + number + ")",
                    () -> table.differences(number), () -> model.differences(number));
            case 9 -> due(what + "shownShare()", () -> table.shownShare(), () -> model.shownShare());
            case 10 -> due(what + "meanSize(" + number + ")",
                    () -> table.meanSize(number), () -> model.meanSize(number));
            default -> due(what + "covered()", () -> table.covered(), () -> model.covered());
        }
    }
}
