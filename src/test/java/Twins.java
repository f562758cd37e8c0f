import java.util.ArrayList;
import java.util.List;
import java.util.function.Supplier;

/**
 * Asks two gardens every call there is, with every number that they hold and those just beside. A
 * new pair of gardens is made for each portion of the calls, as an object answers 512 of them, and
 * as calls that change something would hide from the later ones what was changed ahead of them.
 */
final class Twins {
    /** Leaves 112 of the 512 calls for the making of a garden. */
    private static final int CALLS_A_PORTION = 400;
    private static final int MOST_PASSED = 40;

    private record Probe(String name, Call call) {
    }

    private final List<List<Probe>> portions = new ArrayList<>();
    private List<Probe> portion = List.of();
    private final int places;
    private final int students;

    private Twins(ExamGarden garden) {
        places = garden.places();
        students = garden.students();
        beginPortion();
        askTotals();
        for (int place = -1; place <= places + 1; place++) {
            askPlace(place);
        }
        for (int student = -1; student <= students + 1; student++) {
            askStudent(student);
        }
        changeAll();
    }

    /** The first call that the two answer in different ways; "nothing", if there is none. */
    static String difference(Supplier<ExamGarden> one, Supplier<ExamGarden> other) {
        for (List<Probe> probes : new Twins(one.get()).portions) {
            String found = difference(probes, one.get(), other.get());
            if (!found.isEmpty()) {
                return found;
            }
        }
        return "nothing";
    }

    private static String difference(List<Probe> probes, ExamGarden one, ExamGarden other) {
        for (Probe probe : probes) {
            String before = probe.call.told(one);
            String after = probe.call.told(other);
            if (!before.equals(after)) {
                return probe.name + " answered " + before + " before, " + after + " after";
            }
        }
        return "";
    }

    private void beginPortion() {
        portion = new ArrayList<>();
        portions.add(portion);
    }

    private void add(String name, Call call) {
        if (portion.size() == CALLS_A_PORTION) {
            beginPortion();
        }
        portion.add(new Probe(name, call));
    }

    private void askTotals() {
        add("places()", ExamGarden::places);
        add("exams()", ExamGarden::exams);
        add("graded()", ExamGarden::graded);
        add("students()", ExamGarden::students);
        add("atExams()", ExamGarden::atExams);
        add("riskiestFork()", ExamGarden::riskiestFork);
        add("allRegret()", ExamGarden::allRegret);
        add("meanGrade()", ExamGarden::meanGrade);
        add("digest()", ExamGarden::digest);
    }

    private void askPlace(int p) {
        String of = "(" + p + ")";
        add("isExam" + of, g -> g.isExam(p));
        add("isGraded" + of, g -> g.isGraded(p));
        add("gradeOf" + of, g -> g.gradeOf(p));
        add("leftOf" + of, g -> g.leftOf(p));
        add("rightOf" + of, g -> g.rightOf(p));
        add("weightOf" + of, g -> g.weightOf(p));
        add("sureGrade" + of, g -> g.sureGrade(p));
        add("hope" + of, g -> g.hope(p));
        add("examsFrom" + of, g -> g.examsFrom(p));
        add("risk" + of + " to the left", g -> g.risk(p, false));
        add("risk" + of + " to the right", g -> g.risk(p, true));
        add("planTurnsRight" + of, g -> g.planTurnsRight(p));
        add("planLeadsTo" + of, g -> g.planLeadsTo(p));
        add("hindsight" + of, g -> g.hindsight(p));
        for (int q = -1; q <= places + 1; q++) {
            int other = q;
            add("reaches(" + p + ", " + q + ")", g -> g.reaches(p, other));
        }
    }

    private void askStudent(int s) {
        String of = "(" + s + ")";
        add("placeOf" + of, g -> g.placeOf(s));
        add("passedBy" + of, g -> g.passedBy(s));
        add("regretOf" + of, g -> g.regretOf(s));
        add("worstFork" + of, g -> g.worstFork(s));
    }

    /** What these calls answer shows the forks passed, the grades that an exam can have, and the room left. */
    private void changeAll() {
        for (int student = 0; student < students; student++) {
            walkBack(student);
        }
        for (int grade = -1; grade <= 21; grade++) {
            gradeAll(grade);
        }
        weighAll();
        addPlacesAndStudents();
    }

    private void walkBack(int s) {
        beginPortion();
        add("turn(" + s + ", true)", g -> g.turn(s, true));
        for (int i = 0; i <= MOST_PASSED; i++) {
            add("goBack(" + s + ")", g -> g.goBack(s));
        }
        add("follow(" + s + ")", g -> g.follow(s));
        add("digest() after follow(" + s + ")", ExamGarden::digest);
    }

    private void gradeAll(int grade) {
        beginPortion();
        for (int place = 0; place < places; place++) {
            int p = place;
            add("grade(" + p + ", " + grade + ")", g -> g.grade(p, grade));
        }
        add("meanGrade() after grades of " + grade, ExamGarden::meanGrade);
    }

    private void weighAll() {
        beginPortion();
        for (int place = 0; place < places; place++) {
            int p = place;
            add("weigh(" + p + ", 9)", g -> g.weigh(p, 9));
        }
    }

    private void addPlacesAndStudents() {
        beginPortion();
        add("enroll(0)", g -> g.enroll(0));
        add("passedBy of the new one", g -> g.passedBy(students));
        add("addFork(0, 0, 1)", g -> g.addFork(0, 0, 1));
        add("addExam(0, 20)", g -> g.addExam(0, 20));
        add("digest() after these", ExamGarden::digest);
    }
}
