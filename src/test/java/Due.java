/** Compares answers with what is due, for every test of the project. */
final class Due {
    private static int wrong;
    private static String sentence = "";

    private Due() {
    }

    interface Call {
        void make();
    }

    /** Names the sentence of the document by which the answers behind this are due. */
    static void by(String words) {
        sentence = words;
    }

    static void is(String what, long got, long want) {
        if (got != want) {
            tell(what + " answered " + got + ", due is " + want);
        }
    }

    static void is(String what, boolean got, boolean want) {
        if (got != want) {
            tell(what + " answered " + got + ", due is " + want);
        }
    }

    static void is(String what, String got, String want) {
        if (!got.equals(want)) {
            tell(what + " answered \"" + got + "\", due is \"" + want + "\"");
        }
    }

    static void exactly(String what, double got, double want) {
        if (Double.compare(got, want) != 0) {
            tell(what + " answered " + got + ", due is " + want);
        }
    }

    static void fails(String what, Class<? extends RuntimeException> want, Call call) {
        Class<?> got = null;
        try {
            call.make();
        } catch (RuntimeException e) {
            got = e.getClass();
        }
        if (got != want) {
            tell(what + " threw " + got + ", due is " + want);
        }
    }

    static void tell(String text) {
        wrong++;
        System.out.println(sentence.isEmpty() ? text : text + " [" + sentence + "]");
    }

    static void end(String test) {
        System.out.println(test + ": " + (wrong == 0 ? "all answers are as due" : wrong + " answers are not as due"));
        if (wrong != 0) {
            System.exit(1);
        }
    }
}
