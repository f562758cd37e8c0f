import java.util.function.Supplier;

/** The promises 1 to 5: a new object, and what builds the garden. */
final class GardenCases extends Cases {
    static void run() {
        promise1NewObject();
        promise2AddExam();
        promise2Refused();
        promise3AddFork();
        promise3Refused();
        promise3Order();
        promise4Grade();
        promise4Refused();
        promise5Weigh();
        promise5Refused();
    }

    private static void promise1NewObject() {
        due("promise 1: no places", Gardens::bare, ExamGarden::places, 0);
        due("promise 1: no students", Gardens::bare, ExamGarden::students, 0);
        due("promise 1: the first place is 0", Gardens::bare, g -> g.addExam(0, 20), 0);
        due("promise 1: a garden beside a full one is empty", Gardens::bare,
                all(g -> Gardens.ladderWalked().digest(), ExamGarden::places, ExamGarden::students, ExamGarden::graded),
                Gardens.ladderWalked().digest() + " 0 0 0");
    }

    private static void promise2AddExam() {
        due("promise 2: a number for each exam", Gardens::bare,
                all(g -> g.addExam(3, 12), g -> g.addExam(8, 9)), "0 1");
        due("promise 2: lowest 0, the least", Gardens::bare, g -> g.addExam(0, 7), 0);
        due("promise 2: highest 20, the greatest", Gardens::bare, g -> g.addExam(7, 20), 0);
        due("promise 2: from 0 to 20", Gardens::bare, g -> g.addExam(0, 20), 0);
        due("promise 2: highest the same as lowest", Gardens::bare, g -> g.addExam(7, 7), 0);
        due("promise 2: both 0", Gardens::bare, g -> g.addExam(0, 0), 0);
        due("promise 2: both 20", Gardens::bare, g -> g.addExam(20, 20), 0);
        due("promise 2: highest one more than lowest", Gardens::bare, g -> g.addExam(7, 8), 0);
        due("promise 2: the 40th place, behind exams", Gardens.exams(39), g -> g.addExam(1, 2), 39);
        due("promise 2: the 40th place, behind forks", after(Gardens.oneExam(0, 1), times(38, g -> g.addFork(0, 0, 1))),
                g -> g.addExam(1, 2), 39);
    }

    private static void promise2Refused() {
        Supplier<ExamGarden> some = Gardens::walked;
        refused("promise 2: lowest -1, one too small", some, g -> g.addExam(-1, 4), ARGUMENT);
        refused("promise 2: highest 21, one too great", some, g -> g.addExam(4, 21), ARGUMENT);
        refused("promise 2: highest one less than lowest", some, g -> g.addExam(15, 14), ARGUMENT);
        refused("promise 2: lowest 20, highest 0", some, g -> g.addExam(20, 0), ARGUMENT);
        refused("promise 2: both -1", some, g -> g.addExam(-1, -1), ARGUMENT);
        refused("promise 2: both 21", some, g -> g.addExam(21, 21), ARGUMENT);
        refused("promise 2: -1 to 21", some, g -> g.addExam(-1, 21), ARGUMENT);
        refused("promise 2: lowest 0, highest -1", some, g -> g.addExam(0, -1), ARGUMENT);
        refused("promise 2: lowest 21, highest 20", some, g -> g.addExam(21, 20), ARGUMENT);
        refused("promise 2: the least and the greatest int", some, g -> g.addExam(LEAST, GREATEST), ARGUMENT);
        refused("promise 2: the greatest and the least int", some, g -> g.addExam(GREATEST, LEAST), ARGUMENT);
        refused("promise 2: lowest the least int", some, g -> g.addExam(LEAST, 20), ARGUMENT);
        refused("promise 2: highest the greatest int", some, g -> g.addExam(0, GREATEST), ARGUMENT);
        refused("promise 2: wrong grades in a new garden", Gardens::bare, g -> g.addExam(-1, 4), ARGUMENT);
        refused("promise 2: a 41st place, behind 40 exams", Gardens.exams(40), g -> g.addExam(0, 20), STATE);
        refused("promise 2: a 41st place, behind 39 forks", Gardens::chain, g -> g.addExam(0, 20), STATE);
        refused("promise 2: lowest -1 comes ahead of a 41st place", Gardens::ladder, g -> g.addExam(-1, 4), ARGUMENT);
        refused("promise 2: highest 21 comes ahead of a 41st place", Gardens::ladder, g -> g.addExam(4, 21), ARGUMENT);
        refused("promise 2: highest less than lowest comes ahead of a 41st place", Gardens::ladder,
                g -> g.addExam(2, 1), ARGUMENT);
    }

    private static void promise3AddFork() {
        Supplier<ExamGarden> exam = Gardens.oneExam(3, 4);
        due("promise 3: a number for each fork", exam, all(g -> g.addFork(0, 0, 2), g -> g.addFork(1, 0, 2)), "1 2");
        due("promise 3: weight 1, the least", exam, all(g -> g.addFork(0, 0, 1), g -> g.weightOf(1)), "1 1");
        due("promise 3: weight 9, the greatest", exam, all(g -> g.addFork(0, 0, 9), g -> g.weightOf(1)), "1 9");
        due("promise 3: both paths to exams", Gardens.exams(2), g -> g.addFork(0, 1, 3), 2);
        due("promise 3: both paths to the last fork", Gardens::sample, g -> g.addFork(6, 6, 3), 7);
        due("promise 3: to the left and to the right are told apart", Gardens::sample,
                all(g -> g.addFork(5, 1, 3), g -> g.leftOf(7), g -> g.rightOf(7)), "7 5 1");
        due("promise 3: the 40th place, behind exams", Gardens.exams(39), g -> g.addFork(38, 0, 1), 39);
        due("promise 3: the 40th place, behind forks", after(Gardens.oneExam(0, 1), times(38, g -> g.addFork(0, 0, 1))),
                g -> g.addFork(38, 38, 1), 39);
        due("promise 3: a fork takes over the grades that there are", Gardens::graded,
                all(g -> g.addFork(0, 1, 1), g -> g.sureGrade(7), g -> g.hope(7), g -> g.hindsight(7)), "7 9 9 9");
    }

    private static void promise3Refused() {
        Supplier<ExamGarden> some = Gardens::walked;
        refused("promise 3: a path to itself on the left", some, g -> g.addFork(7, 0, 1), BOUNDS);
        refused("promise 3: a path to itself on the right", some, g -> g.addFork(0, 7, 1), BOUNDS);
        refused("promise 3: both paths to no such place", some, g -> g.addFork(-1, 7, 1), BOUNDS);
        refused("promise 3: both paths to itself in a new garden", Gardens::bare, g -> g.addFork(0, 0, 1), BOUNDS);
        refused("promise 3: weight 0, one too small", some, g -> g.addFork(0, 6, 0), ARGUMENT);
        refused("promise 3: weight 10, one too great", some, g -> g.addFork(0, 6, 10), ARGUMENT);
        refused("promise 3: weight -1", some, g -> g.addFork(0, 6, -1), ARGUMENT);
        refused("promise 3: weight the least int", some, g -> g.addFork(0, 6, LEAST), ARGUMENT);
        refused("promise 3: weight the greatest int", some, g -> g.addFork(0, 6, GREATEST), ARGUMENT);
        refused("promise 3: a 41st place, behind 40 exams", Gardens.exams(40), g -> g.addFork(0, 39, 1), STATE);
        refused("promise 3: a 41st place, behind 39 forks", Gardens::chain, g -> g.addFork(0, 39, 1), STATE);
    }

    private static void promise3Order() {
        refused("promise 3: no such place on the left comes ahead of weight 0", Gardens::walked,
                g -> g.addFork(7, 0, 0), BOUNDS);
        refused("promise 3: no such place on the right comes ahead of weight 10", Gardens::walked,
                g -> g.addFork(0, -1, 10), BOUNDS);
        refused("promise 3: no such place on the left comes ahead of a 41st place", Gardens::ladder,
                g -> g.addFork(40, 0, 1), BOUNDS);
        refused("promise 3: no such place on the right comes ahead of a 41st place", Gardens::ladder,
                g -> g.addFork(0, -1, 1), BOUNDS);
        refused("promise 3: weight 0 comes ahead of a 41st place", Gardens::ladder, g -> g.addFork(0, 39, 0), ARGUMENT);
        refused("promise 3: weight 10 comes ahead of a 41st place", Gardens::ladder,
                g -> g.addFork(39, 0, 10), ARGUMENT);
        refused("promise 3: no such place comes ahead of weight 0 and a 41st place", Gardens::ladder,
                g -> g.addFork(0, 40, 0), BOUNDS);
        refused("promise 3: no such place comes ahead of weight 0 in a new garden", Gardens::bare,
                g -> g.addFork(0, 0, 0), BOUNDS);
    }

    private static void promise4Grade() {
        Supplier<ExamGarden> sample = Gardens::sample;
        due("promise 4: the lowest grade", sample, all(g -> g.grade(0, 3), g -> g.gradeOf(0)), "1 3");
        due("promise 4: the highest grade", sample, all(g -> g.grade(0, 12), g -> g.gradeOf(0)), "1 12");
        due("promise 4: a grade between them", sample, all(g -> g.grade(0, 7), g -> g.gradeOf(0)), "1 7");
        due("promise 4: grade 0", sample, all(g -> g.grade(2, 0), g -> g.gradeOf(2)), "1 0");
        due("promise 4: grade 20", sample, all(g -> g.grade(2, 20), g -> g.gradeOf(2)), "1 20");
        due("promise 4: the one grade that an exam can have", Gardens.oneExam(7, 7), g -> g.grade(0, 7), 1);
        due("promise 4: how many are graded then", sample,
                all(g -> g.grade(1, 9), g -> g.grade(0, 3), g -> g.grade(2, 0)), "1 2 3");
        due("promise 4: the 40th exam graded", after(Gardens.exams(40), gradeAll(39)), g -> g.grade(39, 11), 40);
        due("promise 4: forks far above take the grade over", after(Gardens::ladder, g -> g.grade(1, 19)),
                all(g -> g.sureGrade(39), g -> g.hope(39), g -> g.hindsight(39)), "19 19 19");
        due("promise 4: forks that do not reach the exam take nothing over",
                after(Gardens::sample, g -> g.grade(2, 20)),
                all(g -> g.sureGrade(3), g -> g.hope(3), g -> g.hindsight(3)), "8 12 0");
        due("promise 4: exams above are not touched", after(Gardens.exams(3), g -> g.grade(0, 20)),
                all(g -> g.gradeOf(1), g -> g.sureGrade(1), g -> g.hope(2)), "-1 0 20");
    }

    /** Grades the first exams, each with 10, which all of Gardens.exams can have. */
    private static Call gradeAll(int count) {
        return garden -> {
            for (int exam = 0; exam < count; exam++) {
                garden.grade(exam, 10);
            }
            return garden.graded();
        };
    }

    private static void promise4Refused() {
        Supplier<ExamGarden> open = Gardens::walked;
        Supplier<ExamGarden> graded = Gardens::graded;
        refused("promise 4: one less than the lowest grade", open, g -> g.grade(0, 2), ARGUMENT);
        refused("promise 4: one more than the highest grade", open, g -> g.grade(0, 13), ARGUMENT);
        refused("promise 4: -1 where 0 is the lowest grade", open, g -> g.grade(2, -1), ARGUMENT);
        refused("promise 4: 21 where 20 is the highest grade", open, g -> g.grade(2, 21), ARGUMENT);
        refused("promise 4: the least int", open, g -> g.grade(0, LEAST), ARGUMENT);
        refused("promise 4: the greatest int", open, g -> g.grade(0, GREATEST), ARGUMENT);
        refused("promise 4: again, with the same grade", graded, g -> g.grade(1, 9), STATE);
        refused("promise 4: again, with another grade", graded, g -> g.grade(1, 8), STATE);
        refused("promise 4: again, where the grade is 0", after(Gardens::sample, g -> g.grade(2, 0)),
                g -> g.grade(2, 0), STATE);
        refused("promise 4: again, at the last exam of 40", after(Gardens.exams(40), gradeAll(40)),
                g -> g.grade(39, 10), STATE);
        refused("promise 4: no such place comes ahead of a wrong grade", graded, g -> g.grade(7, 21), BOUNDS);
        refused("promise 4: a place of -1 comes ahead of a wrong grade", graded, g -> g.grade(-1, -1), BOUNDS);
        refused("promise 4: a fork comes ahead of a wrong grade", graded, g -> g.grade(3, 99), BOUNDS);
        refused("promise 4: a fork comes ahead of a grade of -1", graded, g -> g.grade(6, -1), BOUNDS);
        refused("promise 4: one less than the lowest grade comes ahead of graded", graded,
                g -> g.grade(1, 7), ARGUMENT);
        refused("promise 4: one more than the highest grade comes ahead of graded", graded,
                g -> g.grade(1, 10), ARGUMENT);
    }

    private static void promise5Weigh() {
        Supplier<ExamGarden> sample = Gardens::sample;
        due("promise 5: weight 1, the least", sample, all(g -> g.weigh(3, 1), g -> g.weightOf(3)), "2 1");
        due("promise 5: weight 9, the greatest", sample, all(g -> g.weigh(3, 9), g -> g.weightOf(3)), "2 9");
        due("promise 5: the weight that it has", sample, all(g -> g.weigh(3, 2), g -> g.weightOf(3)), "2 2");
        due("promise 5: the one before, each time", sample,
                all(g -> g.weigh(3, 5), g -> g.weigh(3, 7), g -> g.weigh(3, 1)), "2 5 7");
        due("promise 5: other forks keep theirs", after(sample, g -> g.weigh(4, 9)),
                all(g -> g.weightOf(3), g -> g.weightOf(5), g -> g.weightOf(6)), "2 3 4");
        due("promise 5: a risk is weighed anew", after(sample, g -> g.weigh(3, 9)), g -> g.risk(3, true), 36);
        due("promise 5: a regret is weighed anew", after(Gardens::graded, g -> g.weigh(6, 9)), g -> g.regretOf(0), 96);
    }

    private static void promise5Refused() {
        Supplier<ExamGarden> some = Gardens::graded;
        refused("promise 5: weight 0, one too small", some, g -> g.weigh(3, 0), ARGUMENT);
        refused("promise 5: weight 10, one too great", some, g -> g.weigh(3, 10), ARGUMENT);
        refused("promise 5: weight -1", some, g -> g.weigh(3, -1), ARGUMENT);
        refused("promise 5: weight the least int", some, g -> g.weigh(3, LEAST), ARGUMENT);
        refused("promise 5: weight the greatest int", some, g -> g.weigh(3, GREATEST), ARGUMENT);
        refused("promise 5: no such place comes ahead of weight 0", some, g -> g.weigh(7, 0), BOUNDS);
        refused("promise 5: a place of -1 comes ahead of weight 10", some, g -> g.weigh(-1, 10), BOUNDS);
        refused("promise 5: an exam comes ahead of weight 0", some, g -> g.weigh(0, 0), BOUNDS);
        refused("promise 5: no places come ahead of weight 0", Gardens::bare, g -> g.weigh(0, 0), BOUNDS);
    }
}
