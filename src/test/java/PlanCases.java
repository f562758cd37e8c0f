import java.util.function.Supplier;

/** The promises 23 to 30: what is sure, hoped for and reached, risks and plans. */
final class PlanCases extends Cases {
    static void run() {
        promise23SureGrade();
        promise24Hope();
        promise25Reaches();
        promise26ExamsFrom();
        promise27Risk();
        promise28PlanTurnsRight();
        promise29PlanLeadsTo();
        promise30RiskiestFork();
    }

    private static void promise23SureGrade() {
        due("promise 23: 0, the least", Gardens::sample, g -> g.sureGrade(2), 0);
        due("promise 23: 20, the greatest", Gardens.oneExam(20, 20), g -> g.sureGrade(0), 20);
        due("promise 23: of forks above each other", Gardens::sample,
                all(g -> g.sureGrade(3), g -> g.sureGrade(4), g -> g.sureGrade(5), g -> g.sureGrade(6)), "8 8 8 8");
        due("promise 23: of forks above a graded exam", after(Gardens::sample, g -> g.grade(0, 12)),
                all(g -> g.sureGrade(3), g -> g.sureGrade(4), g -> g.sureGrade(5), g -> g.sureGrade(6)), "12 8 12 12");
        due("promise 23: graded with its lowest grade it stays", after(Gardens::sample, g -> g.grade(0, 3)),
                all(g -> g.sureGrade(0), g -> g.sureGrade(3)), "3 8");
        due("promise 23: of place 39, 39 forks up", Gardens::chain, g -> g.sureGrade(39), 3);
        due("promise 23: of place 39, 39 forks above a graded exam", after(Gardens::chain, g -> g.grade(0, 16)),
                g -> g.sureGrade(39), 16);
    }

    private static void promise24Hope() {
        due("promise 24: 0, the least", Gardens.oneExam(0, 0), g -> g.hope(0), 0);
        due("promise 24: 20, the greatest", Gardens::sample, g -> g.hope(2), 20);
        due("promise 24: of forks above each other", Gardens::sample,
                all(g -> g.hope(3), g -> g.hope(4), g -> g.hope(5), g -> g.hope(6)), "12 20 20 20");
        due("promise 24: of forks above a graded exam", after(Gardens::sample, g -> g.grade(2, 10)),
                all(g -> g.hope(2), g -> g.hope(4), g -> g.hope(5), g -> g.hope(6)), "10 10 12 12");
        due("promise 24: graded with its highest grade it stays", after(Gardens::sample, g -> g.grade(2, 20)),
                all(g -> g.hope(2), g -> g.hope(6)), "20 20");
        due("promise 24: of place 39, 39 forks up", Gardens::chain, g -> g.hope(39), 17);
        due("promise 24: of place 39, 39 forks above a graded exam", after(Gardens::chain, g -> g.grade(0, 4)),
                g -> g.hope(39), 4);
    }

    private static void promise25Reaches() {
        Supplier<ExamGarden> late = after(Gardens.exams(38), g -> g.addFork(37, 2, 1), g -> g.addFork(38, 36, 1));
        due("promise 25: each place itself, the first and the last", late,
                all(g -> g.reaches(0, 0), g -> g.reaches(39, 39)), "true true");
        due("promise 25: 39 reaches the exams that its forks lead to", late,
                all(g -> g.reaches(39, 36), g -> g.reaches(39, 37), g -> g.reaches(39, 2)), "true true true");
        due("promise 25: 39 reaches no others, as those 32 numbers off", late,
                all(g -> g.reaches(39, 4), g -> g.reaches(39, 5), g -> g.reaches(39, 34), g -> g.reaches(39, 7)),
                "false false false false");
        due("promise 25: an exam reaches no other place", late,
                all(g -> g.reaches(36, 39), g -> g.reaches(1, 0), g -> g.reaches(0, 1)), "false false false");
        due("promise 25: the other way round not", Gardens::sample,
                all(g -> g.reaches(5, 0), g -> g.reaches(0, 5)), "true false");
        due("promise 25: all places from the top of the longest way", Gardens::chain,
                all(g -> g.reaches(39, 0), g -> g.reaches(39, 1), g -> g.reaches(39, 38)), "true true true");
        due("promise 25: grades change nothing", Gardens::graded,
                all(g -> g.reaches(5, 0), g -> g.reaches(3, 2)), "true false");
        refused("promise 25: both are no places", Gardens::walked, g -> g.reaches(-1, 7), BOUNDS);
        refused("promise 25: the same number twice, and no such place", Gardens::walked, g -> g.reaches(7, 7), BOUNDS);
    }

    private static void promise26ExamsFrom() {
        due("promise 26: 1 from an exam, itself", Gardens::sample, g -> g.examsFrom(1), 1);
        due("promise 26: 2 from a fork to two exams", Gardens::sample, g -> g.examsFrom(3), 2);
        due("promise 26: one reached on two ways counts once", Gardens::sample, g -> g.examsFrom(5), 3);
        due("promise 26: both paths to one place", Gardens::sample, g -> g.examsFrom(6), 3);
        due("promise 26: 1 from a fork with both paths to one exam",
                after(Gardens.oneExam(0, 1), g -> g.addFork(0, 0, 1)), g -> g.examsFrom(1), 1);
        due("promise 26: graded ones count", Gardens::graded, g -> g.examsFrom(6), 3);
        due("promise 26: 1 from the top of 39 forks", Gardens::chain, g -> g.examsFrom(39), 1);
        due("promise 26: 20, all exams there are below 20 forks one above the other", PlanCases::comb,
                g -> g.examsFrom(39), 20);
        due("promise 26: 2 from the second lowest of them, without the exams further up", PlanCases::comb,
                g -> g.examsFrom(21), 2);
    }

    /** Exams 0 to 19; fork 20 leads to 0 and 0, each later fork to the one below and to a new exam. */
    private static ExamGarden comb() {
        ExamGarden garden = Gardens.exams(20).get();
        garden.addFork(0, 0, 1);
        for (int place = 21; place < 40; place++) {
            garden.addFork(place - 1, place - 20, 1);
        }
        return garden;
    }

    private static void promise27Risk() {
        due("promise 27: of left paths", Gardens::sample,
                all(g -> g.risk(3, false), g -> g.risk(4, false), g -> g.risk(5, false)), "12 45 36");
        due("promise 27: of right paths", Gardens::sample,
                all(g -> g.risk(3, true), g -> g.risk(4, true), g -> g.risk(5, true)), "8 60 12");
        due("promise 27: 0, the least", after(Gardens::sample, g -> g.grade(0, 12)), g -> g.risk(3, false), 0);
        due("promise 27: 180, the greatest", Gardens.pair(9), g -> g.risk(2, true), 180);
        due("promise 27: with weight 1", Gardens.pair(1), g -> g.risk(2, true), 20);
        due("promise 27: when weighed", after(Gardens::sample, g -> g.weigh(3, 9)), g -> g.risk(3, true), 36);
        due("promise 27: of both paths to one open place", Gardens::sample,
                all(g -> g.risk(6, false), g -> g.risk(6, true)), "48 48");
        due("promise 27: of both paths to one graded exam",
                after(Gardens.oneExam(0, 9), g -> g.addFork(0, 0, 9), g -> g.grade(0, 5)),
                all(g -> g.risk(1, false), g -> g.risk(1, true)), "0 0");
    }

    private static void promise28PlanTurnsRight() {
        due("promise 28: where the right risk is smaller", Gardens::sample, g -> g.planTurnsRight(3), true);
        due("promise 28: where the left risk is smaller", Gardens::sample, g -> g.planTurnsRight(4), false);
        due("promise 28: where both are the same", Gardens::sample, g -> g.planTurnsRight(6), false);
        due("promise 28: where both are 0", Gardens.pair(0, 0, 0, 0, 9), g -> g.planTurnsRight(2), false);
        due("promise 28: a grade turns it", after(Gardens::sample, g -> g.grade(0, 12)),
                g -> g.planTurnsRight(3), false);
        due("promise 28: a weight does not turn it", after(Gardens::sample, g -> g.weigh(3, 9), g -> g.weigh(4, 1)),
                all(g -> g.planTurnsRight(3), g -> g.planTurnsRight(4)), "true false");
    }

    private static void promise29PlanLeadsTo() {
        due("promise 29: an exam to itself", Gardens::sample, g -> g.planLeadsTo(1), 1);
        due("promise 29: a graded exam to itself", Gardens::graded, g -> g.planLeadsTo(2), 2);
        due("promise 29: from a fork just above", Gardens::sample,
                all(g -> g.planLeadsTo(3), g -> g.planLeadsTo(4)), "1 2");
        due("promise 29: over fork after fork", Gardens::sample,
                all(g -> g.planLeadsTo(5), g -> g.planLeadsTo(6)), "2 2");
        due("promise 29: to the left where all risks are the same", Gardens.pair(5), g -> g.planLeadsTo(2), 0);
        due("promise 29: a grade leads elsewhere", after(Gardens::sample, g -> g.grade(2, 0)),
                g -> g.planLeadsTo(6), 1);
        due("promise 29: over 39 forks, the most", Gardens::chain, g -> g.planLeadsTo(39), 0);
        due("promise 29: students are not led", after(Gardens::walked, g -> g.planLeadsTo(5)), g -> g.placeOf(1), 5);
    }

    private static void promise30RiskiestFork() {
        Supplier<ExamGarden> calm = after(Gardens.oneExam(5, 5), g -> g.addFork(0, 0, 9), g -> g.addFork(0, 0, 9));
        due("promise 30: -1 in a new garden", Gardens::bare, ExamGarden::riskiestFork, -1);
        due("promise 30: -1 with an exam alone", Gardens.oneExam(0, 20), ExamGarden::riskiestFork, -1);
        due("promise 30: -1 with 40 exams", Gardens.exams(40), ExamGarden::riskiestFork, -1);
        due("promise 30: the only fork, without risk", Gardens.pair(5, 5, 5, 5, 9), ExamGarden::riskiestFork, 2);
        due("promise 30: the first of several without risk", calm, ExamGarden::riskiestFork, 1);
        due("promise 30: by the smaller risk of its two paths", Gardens::sample, ExamGarden::riskiestFork, 6);
        due("promise 30: not by the greater one", after(Gardens.pair(10, 10, 0, 0, 9), g -> g.addExam(4, 5),
                g -> g.addFork(3, 3, 1)), ExamGarden::riskiestFork, 4);
        due("promise 30: of two the same the smaller number", after(Gardens::sample, g -> g.weigh(6, 1),
                g -> g.addFork(2, 1, 5)), ExamGarden::riskiestFork, 4);
        due("promise 30: a later one with 1 more", after(Gardens.oneExam(4, 5), g -> g.addFork(0, 0, 5),
                g -> g.addFork(0, 0, 6)), ExamGarden::riskiestFork, 2);
        due("promise 30: an earlier one with 1 more", after(Gardens.oneExam(4, 5), g -> g.addFork(0, 0, 6),
                g -> g.addFork(0, 0, 5)), ExamGarden::riskiestFork, 1);
        due("promise 30: 39, the greatest number there may be", after(Gardens.exams(39), g -> g.addFork(0, 0, 1)),
                ExamGarden::riskiestFork, 39);
        due("promise 30: of the ladder, the first with weight 9", Gardens::ladder, ExamGarden::riskiestFork, 8);
        due("promise 30: all without risk, once graded", Gardens::graded, ExamGarden::riskiestFork, 3);
    }
}
