import java.util.function.Supplier;

/** "What it is" and "Terms": what holds for several methods at once. */
final class TermsCases extends Cases {
    static void run() {
        calls();
        places();
        exams();
        forks();
        reaching();
        risk();
        plan();
        students();
        hindsight();
        regret();
        exceptions();
    }

    private static void calls() {
        Supplier<ExamGarden> afterFourCalls = Gardens.pair(1);
        due("what it is: the 512th call, after walks to and fro", afterFourCalls,
                all(times(253, all(g -> g.turn(0, true), g -> g.goBack(0))), g -> g.passedBy(0), g -> g.placeOf(0)),
                "1 2 0 2");
        due("what it is: the 512th call, after refused ones", afterFourCalls,
                all(times(507, all(g -> g.turn(1, true))), ExamGarden::places), BOUNDS_THROWN + " 3");
        due("what it is: the 512th call, after other weights", afterFourCalls,
                all(times(253, all(g -> g.weigh(2, 9), g -> g.weigh(2, 1))), g -> g.weigh(2, 5), g -> g.weightOf(2)),
                "1 9 1 5");
        due("what it is: the 512th call, after checksums", afterFourCalls,
                all(times(507, ExamGarden::digest), ExamGarden::places), Gardens.pair(1).get().digest() + " 3");
    }

    private static void places() {
        due("terms, places: numbered from 0 in their order, exams and forks in one row", Gardens::bare,
                all(g -> g.addExam(0, 1), g -> g.addFork(0, 0, 1), g -> g.addExam(0, 1), g -> g.addFork(1, 2, 1)),
                "0 1 2 3");
        due("terms, places: a refused place takes no number", Gardens.oneExam(0, 1),
                all(g -> g.addExam(1, 0), g -> g.addFork(0, 1, 1), g -> g.addFork(0, 0, 0), g -> g.addExam(0, 1)),
                ARGUMENT_THROWN + " " + BOUNDS_THROWN + " " + ARGUMENT_THROWN + " 1");
        due("terms, places: 40, all of them exams", Gardens.exams(40), ExamGarden::places, 40);
        due("terms, places: 40, all but the first of them forks", Gardens::chain, ExamGarden::places, 40);
    }

    private static void exams() {
        Supplier<ExamGarden> open = Gardens.oneExam(4, 15);
        Call both = all(g -> g.sureGrade(0), g -> g.hope(0));
        due("terms, exams: an open one has its lowest grade for sure, and hope of its highest", open, both, "4 15");
        due("terms, exams: sure grade and hope of one graded with its lowest grade",
                after(open, g -> g.grade(0, 4)), both, "4 4");
        due("terms, exams: sure grade and hope of one graded with its highest grade",
                after(open, g -> g.grade(0, 15)), both, "15 15");
        due("terms, exams: sure grade and hope of one graded between them",
                after(open, g -> g.grade(0, 9)), both, "9 9");
        due("terms, exams: one that can have one grade alone is open till it is graded", Gardens.oneExam(7, 7),
                all(g -> g.isGraded(0), g -> g.gradeOf(0), g -> g.sureGrade(0), g -> g.hope(0),
                        ExamGarden::graded, ExamGarden::meanGrade),
                "false -1 7 7 0 0.0");
        due("terms, exams: two with the same grades are graded apart", after(Gardens.pair(1), g -> g.grade(1, 6)),
                all(g -> g.gradeOf(0), g -> g.gradeOf(1), g -> g.sureGrade(0), g -> g.hope(0)), "-1 6 0 20");
    }

    private static void forks() {
        Call both = all(g -> g.sureGrade(2), g -> g.hope(2));
        due("terms, forks: the greater sure grade and hope, both to the left",
                Gardens.pair(5, 9, 4, 8, 1), both, "5 9");
        due("terms, forks: the greater sure grade and hope, both to the right",
                Gardens.pair(4, 8, 5, 9, 1), both, "5 9");
        due("terms, forks: the sure grade from the left, the hope from the right",
                Gardens.pair(5, 6, 2, 9, 1), both, "5 9");
        due("terms, forks: the hope from the left, the sure grade from the right",
                Gardens.pair(2, 9, 5, 6, 1), both, "5 9");
        due("terms, forks: sure grade and hope where both are the same", Gardens.pair(5, 9, 5, 9, 1), both, "5 9");
        due("terms, forks: both paths to the same place", after(Gardens.oneExam(3, 8), g -> g.addFork(0, 0, 2)),
                all(g -> g.leftOf(1), g -> g.rightOf(1), g -> g.sureGrade(1), g -> g.hope(1), g -> g.examsFrom(1)),
                "0 0 3 8 1");
        due("terms, forks: the weight does not touch sure grade and hope",
                after(Gardens.pair(5, 6, 2, 9, 1), g -> g.weigh(2, 9)), both, "5 9");
    }

    private static void reaching() {
        due("terms, forks: an exam reaches itself", Gardens::sample, g -> g.reaches(1, 1), true);
        due("terms, forks: a fork reaches itself", Gardens::sample, g -> g.reaches(4, 4), true);
        due("terms, forks: a fork reaches where its left path leads", Gardens::sample, g -> g.reaches(4, 2), true);
        due("terms, forks: a fork reaches where its right path leads", Gardens::sample, g -> g.reaches(4, 1), true);
        due("terms, forks: a fork reaches what is reached from there", Gardens::sample, g -> g.reaches(6, 0), true);
        due("terms, forks: a fork does not reach one beside it", Gardens::sample, g -> g.reaches(4, 3), false);
        due("terms, forks: no place reaches one above it", Gardens::sample, g -> g.reaches(3, 5), false);
        due("terms, forks: place 39 reaches 38 levels down", Gardens::ladder, g -> g.reaches(39, 1), true);
    }

    private static void risk() {
        Call both = all(g -> g.risk(2, false), g -> g.risk(2, true));
        due("terms, risk: 0 where the hope is 1 less than what is sure", Gardens.pair(10, 10, 9, 9, 9), both, "0 9");
        due("terms, risk: 0 where the hope is what is sure", Gardens.pair(10, 10, 10, 10, 9), both, "0 0");
        due("terms, risk: the weight where the hope is 1 more", Gardens.pair(10, 10, 11, 11, 9), both, "9 0");
        due("terms, risk: 180, the greatest, on both paths", Gardens.pair(9), both, "180 180");
        due("terms, risk: 0 where the hope is 20 less", Gardens.pair(20, 20, 0, 0, 9), both, "0 180");
        due("terms, risk: of both paths to the same place",
                after(Gardens.oneExam(3, 8), g -> g.addFork(0, 0, 2), g -> g.addFork(1, 1, 4)),
                all(g -> g.risk(2, false), g -> g.risk(2, true)), "20 20");
    }

    private static void plan() {
        due("terms, plan: to the left where the risks are the same", Gardens.pair(9), g -> g.planTurnsRight(2), false);
        due("terms, plan: to the left where both risks are 0", Gardens.pair(5, 5, 5, 5, 9),
                g -> g.planTurnsRight(2), false);
        due("terms, plan: to the left where its risk is 1 less", Gardens.pair(5, 9, 5, 8, 1),
                g -> g.planTurnsRight(2), false);
        due("terms, plan: to the right where its risk is 1 less", Gardens.pair(5, 8, 5, 9, 1),
                g -> g.planTurnsRight(2), true);
        due("terms, plan: to the right where its risk is 0, the least, and that of the left not",
                Gardens.pair(0, 0, 20, 20, 1), g -> g.planTurnsRight(2), true);
    }

    private static void students() {
        due("terms, students: numbered from 0 in their order", Gardens::sample, all(g -> g.enroll(6), g -> g.enroll(0),
                g -> g.enroll(6)), "0 1 2");
        due("terms, students: several at one place walk on their own",
                after(Gardens.pair(1), g -> g.enroll(2), g -> g.turn(1, true)),
                all(g -> g.placeOf(0), g -> g.passedBy(0), g -> g.placeOf(1), g -> g.passedBy(1)), "2 0 1 1");
        due("terms, students: 39 forks passed, as many as 40 places allow, are remembered",
                after(Gardens::chain, times(39, g -> g.turn(0, false))), g -> g.passedBy(0), 39);
        due("terms, students: a fork passed stays so, whatever is added, graded or weighed later",
                after(Gardens.pair(1), g -> g.turn(0, true), g -> g.addFork(2, 2, 5), g -> g.grade(1, 4),
                        g -> g.weigh(2, 9)),
                all(g -> g.passedBy(0), g -> g.placeOf(0), g -> g.goBack(0)), "1 1 2");
    }

    private static void hindsight() {
        Supplier<ExamGarden> pair = Gardens.pair(1);
        due("terms, hindsight: 0 where no exam is graded", pair, g -> g.hindsight(2), 0);
        due("terms, hindsight: 0 where the grade is 0", after(pair, g -> g.grade(0, 0)), g -> g.hindsight(2), 0);
        due("terms, hindsight: the grade of the one graded, not the hope of the other",
                after(pair, g -> g.grade(1, 1)), g -> g.hindsight(2), 1);
        due("terms, hindsight: the greatest one, to the left", after(pair, g -> g.grade(0, 20), g -> g.grade(1, 19)),
                g -> g.hindsight(2), 20);
        due("terms, hindsight: the greatest one, to the right", after(pair, g -> g.grade(0, 19), g -> g.grade(1, 20)),
                g -> g.hindsight(2), 20);
        due("terms, hindsight: an exam that the fork does not reach does not count",
                after(pair, g -> g.addExam(0, 20), g -> g.grade(3, 20), g -> g.grade(0, 7)), g -> g.hindsight(2), 7);
    }

    private static void regret() {
        Supplier<ExamGarden> left = after(Gardens.pair(9), g -> g.turn(0, false));
        due("terms, regret: 0 where the grade is the greatest one",
                after(left, g -> g.grade(0, 8), g -> g.grade(1, 7)), g -> g.regretOf(0), 0);
        due("terms, regret: 0 where both grades are the same",
                after(left, g -> g.grade(0, 8), g -> g.grade(1, 8)), g -> g.regretOf(0), 0);
        due("terms, regret: the weight where the grade is 1 less",
                after(left, g -> g.grade(0, 8), g -> g.grade(1, 9)), g -> g.regretOf(0), 9);
        due("terms, regret: 180, the most at one fork",
                after(left, g -> g.grade(0, 0), g -> g.grade(1, 20)), g -> g.regretOf(0), 180);
        due("terms, regret: an open exam does not count", after(left, g -> g.grade(0, 8)), g -> g.regretOf(0), 0);
    }

    private static void exceptions() {
        refused("terms, exceptions: nothing is changed in a full garden with walks and grades",
                Gardens::ladderWalked, g -> g.addFork(39, 38, 5), STATE);
        refused("terms, exceptions: the one named first of three", Gardens::ladderWalked,
                g -> g.addFork(40, -1, 10), BOUNDS);
        Call refusedOnes = all(g -> g.addExam(0, 20), g -> g.enroll(0), g -> g.grade(0, 5), g -> g.turn(0, true));
        due("terms, exceptions: a hundred refused calls of each kind change nothing", Gardens::ladderWalked,
                all(times(100, refusedOnes), ExamGarden::digest),
                (STATE_THROWN + " ").repeat(4) + Gardens.ladderWalked().digest());
    }
}
