import java.util.HashSet;
import java.util.Set;

/** Counts the answers that are not as due, for the tests of the project. */
final class Checks {
    private static final int MOST_SHOWN_OF_ONE_SENTENCE = 8;

    private int done;
    private int wrong;
    private int shown;
    private final Set<String> sentences = new HashSet<>();
    private String heading = "";

    /** What follows is the test of this sentence of the document; a wrong answer is shown beside it. */
    void sentence(String words) {
        sentences.add(words);
        shown = 0;
        heading = "\"" + words + "\": ";
    }

    void due(String call, long got, long want) {
        done++;
        if (got != want) {
            wrong++;
            show(call + " answered " + got + ", due is " + want);
        }
    }

    void due(String call, boolean got, boolean want) {
        due(call, got ? 1L : 0L, want ? 1L : 0L);
    }

    void same(String call, String got, String want) {
        done++;
        if (!got.equals(want)) {
            wrong++;
            show(call + " answered\n  " + got + "\ndue is\n  " + want);
        }
    }

    void fail(String what) {
        due(what, 1, 0);
    }

    void end() {
        if (!sentences.isEmpty()) {
            System.out.print(sentences.size() + " sentences, ");
        }
        System.out.println(wrong == 0 ? done + " answers are as due" : wrong + " of " + done + " answers are not as due");
        if (wrong != 0) {
            System.exit(1);
        }
    }

    private void show(String what) {
        shown++;
        if (shown <= MOST_SHOWN_OF_ONE_SENTENCE) {
            System.out.println(heading + what);
        }
    }
}
