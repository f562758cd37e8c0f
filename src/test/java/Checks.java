/** Counts the answers that are not as due, and tells each of them. */
final class Checks {
    private int wrong;

    void same(String what, long got, long due) {
        if (got != due) {
            tell(what + " answered " + got + ", due is " + due);
        }
    }

    void same(String what, boolean got, boolean due) {
        same(what, got ? 1 : 0, due ? 1 : 0);
    }

    void sameMean(String what, double got, double due) {
        if (Double.compare(got, due) != 0) {
            tell(what + " answered " + got + ", due is " + due);
        }
    }

    void sameText(String what, String got, String due) {
        if (!got.equals(due)) {
            tell(what + " is\n  " + got + "\ndue is\n  " + due);
        }
    }

    /** The call has to throw just this class, and to leave the garden as it was. */
    void refuses(String what, ExamGarden garden, Class<? extends RuntimeException> due, Runnable call) {
        long before = garden.digest();
        sameText(what, nameOfThrown(call), due.getName());
        same("digest() after " + what, garden.digest(), before);
    }

    static String nameOfThrown(Runnable call) {
        try {
            call.run();
            return "nothing";
        } catch (RuntimeException thrown) {
            return thrown.getClass().getName();
        }
    }

    void finish() {
        System.out.println(wrong == 0 ? "all answers are as due" : wrong + " answers are not as due");
        if (wrong != 0) {
            System.exit(1);
        }
    }

    private void tell(String text) {
        wrong++;
        System.out.println(text);
    }
}
