import java.util.Arrays;

/**
 * Runs of 512 calls, the same ones each time, against GardenModel. Each run draws its own leaning,
 * so that some gardens are full at once, some are deep, and some are hardly graded.
 */
public final class RandomRunsTest {
    private static final int RUNS = 300;
    private static final int CALLS_A_RUN = 512;

    /** The calls by groups, with what they take: a place, a student, a grade, a weight, yes or no. */
    private static final String[] ADDING = {"addExam gg", "addFork ppw"};
    private static final String[] WALKING = {"enroll p", "turn sy", "turn sy", "goBack s", "goBack s", "follow s"};
    private static final String[] ASKING = {
        "weigh pw", "places", "exams", "graded", "students", "atExams", "isExam p", "isGraded p",
        "gradeOf p", "leftOf p", "rightOf p", "weightOf p", "placeOf s", "passedBy s", "sureGrade p",
        "hope p", "reaches pp", "examsFrom p", "risk py", "planTurnsRight p", "planLeadsTo p",
        "riskiestFork", "hindsight p", "regretOf s", "worstFork s", "allRegret", "meanGrade", "digest"};

    private long seed;
    private int adding;
    private int forking;
    private int deep;
    private int grading;
    private int wild;

    private final Checks checks = new Checks();

    public static void main(String[] args) {
        RandomRunsTest test = new RandomRunsTest();
        for (int run = 1; run <= RUNS; run++) {
            test.run(run);
        }
        test.checks.finish();
    }

    private void run(int number) {
        seed = number;
        adding = draw(60);
        forking = draw(100);
        deep = draw(100);
        grading = draw(50);
        wild = draw(12);
        ExamGarden garden = new ExamGarden();
        GardenModel model = new GardenModel();
        for (int calls = 0; calls < CALLS_A_RUN; calls += 2) {
            String[] words = drawCall().split(" ");
            Object[] arguments = drawArguments(words.length > 1 ? words[1] : "", model);
            String where = "run " + number + ", call " + calls + ": " + words[0] + Arrays.toString(arguments);
            checks.sameText(where, ByName.ask(garden, words[0], arguments),
                    ByName.ask(model, words[0], arguments));
            checks.same("digest() after " + where, garden.digest(), model.digest());
        }
    }

    private String drawCall() {
        if (draw(100) < adding) {
            return ADDING[draw(100) < forking ? 1 : 0];
        }
        if (draw(100) < grading) {
            return "grade pg";
        }
        return draw(2) == 0 ? WALKING[draw(WALKING.length)] : ASKING[draw(ASKING.length)];
    }

    private Object[] drawArguments(String letters, GardenModel model) {
        Object[] drawn = new Object[letters.length()];
        for (int i = 0; i < drawn.length; i++) {
            drawn[i] = drawArgument(letters.charAt(i), (int) model.places(), (int) model.students());
        }
        return drawn;
    }

    private Object drawArgument(char letter, int places, int students) {
        switch (letter) {
            case 'p': return drawPlace(places);
            case 's': return drawNumber(students);
            case 'g': return draw(100) < wild ? drawWild(20) : draw(21);
            case 'w': return draw(100) < wild ? drawWild(9) : 1 + draw(9);
            default: return draw(2) == 1;
        }
    }

    private int drawPlace(int places) {
        if (places > 0 && draw(100) < deep) {
            return Math.max(0, places - 1 - draw(3));
        }
        return drawNumber(places);
    }

    private int drawNumber(int count) {
        return draw(100) < wild || count == 0 ? drawWild(count) : draw(count);
    }

    private int drawWild(int count) {
        switch (draw(6)) {
            case 0: return -1;
            case 1: return count;
            case 2: return count + 1;
            case 3: return Integer.MAX_VALUE;
            case 4: return Integer.MIN_VALUE;
            default: return draw(130) - 65;
        }
    }

    /** A linear congruential generator: the runs must be the same each time. */
    private int draw(int below) {
        seed = seed * 6364136223846793005L + 1442695040888963407L;
        return (int) ((seed >>> 33) % below);
    }
}
