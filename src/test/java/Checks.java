import java.util.ArrayList;
import java.util.List;
import java.util.TreeSet;

/** Runs tests by their names, counts the answers that are not as due, and tells each of them. */
final class Checks {
    private final List<String> names = new ArrayList<>();
    private String running = "";
    private int wrong;

    void test(String name, Runnable body) {
        running = name;
        names.add(name);
        String thrown = nameOfThrown(body);
        sameText("the test itself throws", thrown, "nothing");
        running = "";
    }

    void same(String what, long got, long due) {
        if (got != due) {
            tell(what + " answered " + got + ", due is " + due);
        }
    }

    void sameText(String what, String got, String due) {
        if (!got.equals(due)) {
            tell(what + " is\n  " + got + "\ndue is\n  " + due);
        }
    }

    static String nameOfThrown(Runnable call) {
        try {
            call.run();
            return "nothing";
        } catch (RuntimeException thrown) {
            return thrown.getClass().getName();
        }
    }

    int testsNamed(String start) {
        int count = 0;
        for (String name : names) {
            count += name.startsWith(start) ? 1 : 0;
        }
        return count;
    }

    /** Two tests of one name could not be told apart where one fails. */
    void namesDiffer() {
        same("how many names of tests differ", new TreeSet<>(names).size(), names.size());
    }

    void finish() {
        String tests = names.isEmpty() ? "" : names.size() + " tests, ";
        System.out.println(tests + (wrong == 0 ? "all answers are as due" : wrong + " answers are not as due"));
        if (wrong != 0) {
            System.exit(1);
        }
    }

    private void tell(String text) {
        wrong++;
        System.out.println(running.isEmpty() ? text : running + "\n  " + text);
    }
}
