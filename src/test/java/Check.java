/** Counts the wrong answers of a test, prints each, and ends the test with their exit code. */
final class Check {
    private final String test;
    private String sentence = "";
    private int asked = 0;
    private int wrong = 0;

    Check(String test) {
        this.test = test;
    }

    /** The words of the document that the answers asked for from here on rest on. */
    void sentence(String words) {
        sentence = "\n    where the document says: " + words;
    }

    void due(String call, long got, long want) {
        asked++;
        if (got != want) {
            tell(call + " answered " + got + ", due is " + want);
        }
    }

    void due(String call, boolean got, boolean want) {
        due(call, got ? 1L : 0L, want ? 1L : 0L);
    }

    void dueText(String what, String got, String want) {
        asked++;
        if (!got.equals(want)) {
            tell(what + " is " + got + ", due is " + want);
        }
    }

    /** The very class is due, as the machine's own exceptions are classes below those of the document. */
    void dueThrow(String call, Class<? extends RuntimeException> want, Runnable run) {
        asked++;
        try {
            run.run();
            tell(call + " threw nothing, due is " + want.getSimpleName());
        } catch (RuntimeException e) {
            if (e.getClass() != want) {
                tell(call + " threw " + e + ", due is " + want.getSimpleName());
            }
        }
    }

    void tell(String what) {
        wrong++;
        if (wrong <= 40) {
            System.out.println(test + ": " + what + sentence);
        }
    }

    void end() {
        System.out.println(test + ": " + asked + " answers, " + wrong + " wrong");
        if (wrong != 0 || asked == 0) {
            System.exit(1);
        }
    }
}
