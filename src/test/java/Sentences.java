import java.util.ArrayList;
import java.util.List;

/** Tests by the words of the document that each of them holds the program to. */
final class Sentences {
    /** The test of one sentence, or of one part of it. */
    interface Test {
        void run(Checks checks);
    }

    /** Words of the document, the section in which they stand, and their test. */
    record Held(String section, String words, Test test) {
    }

    private final List<Held> all = new ArrayList<>();
    private String section = "";

    /** Names the section, by the beginning of its heading or paragraph, for what follows. */
    void in(String named) {
        section = named;
    }

    void says(String words, Test test) {
        all.add(new Held(section, words, test));
    }

    List<Held> all() {
        return all;
    }

    /** Runs all tests, or those alone whose section and words hold the asked text. */
    void run(String[] asked) {
        Checks checks = new Checks();
        int ran = 0;
        for (Held held : all) {
            String topic = held.section + " \"" + held.words + "\"";
            if (asked.length == 0 || topic.contains(asked[0])) {
                checks.begin(topic);
                runOne(held, checks);
                ran++;
            }
        }
        System.out.println(ran + " sentences");
        checks.end();
    }

    private static void runOne(Held held, Checks checks) {
        int before = checks.made();
        try {
            held.test.run(checks);
        } catch (RuntimeException e) {
            checks.fault("a call that only prepares the test threw " + e);
        }
        if (checks.made() == before) {
            checks.fault("the test looks at nothing");
        }
    }
}
