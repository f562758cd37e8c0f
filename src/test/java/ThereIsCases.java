import java.util.function.Supplier;

/** The promises 10 to 22: what there is. */
final class ThereIsCases extends Cases {
    static void run() {
        promise10Places();
        promise11Exams();
        promise12Graded();
        promise13Students();
        promise14AtExams();
        promises15To17Exams();
        promises18To20Forks();
        promises21And22Students();
    }

    private static void promise10Places() {
        due("promise 10: 0 in a new garden", Gardens::bare, ExamGarden::places, 0);
        due("promise 10: 1 with the first exam", Gardens.oneExam(0, 0), ExamGarden::places, 1);
        due("promise 10: exams and forks", Gardens::sample, ExamGarden::places, 7);
        due("promise 10: 40, the most", Gardens::ladder, ExamGarden::places, 40);
    }

    private static void promise11Exams() {
        due("promise 11: 0 in a new garden", Gardens::bare, ExamGarden::exams, 0);
        due("promise 11: forks do not count", Gardens::sample, ExamGarden::exams, 3);
        due("promise 11: graded ones count", Gardens::graded, ExamGarden::exams, 3);
        due("promise 11: one behind forks counts", after(Gardens::sample, g -> g.addExam(0, 0)), ExamGarden::exams, 4);
        due("promise 11: 1 with 39 forks", Gardens::chain, ExamGarden::exams, 1);
        due("promise 11: 40, the most", Gardens.exams(40), ExamGarden::exams, 40);
    }

    private static void promise12Graded() {
        due("promise 12: 0 in a new garden", Gardens::bare, ExamGarden::graded, 0);
        due("promise 12: 0 as long as all are open", Gardens::sample, ExamGarden::graded, 0);
        due("promise 12: 1 graded with 0", after(Gardens::sample, g -> g.grade(2, 0)), ExamGarden::graded, 1);
        due("promise 12: all of them", Gardens::graded, ExamGarden::graded, 3);
        due("promise 12: a new exam is open", after(Gardens::graded, g -> g.addExam(5, 5)), ExamGarden::graded, 3);
        due("promise 12: 40, the most", after(Gardens::bare, times(40, gradedExam())), ExamGarden::graded, 40);
    }

    private static Call gradedExam() {
        return garden -> garden.grade(garden.addExam(7, 8), 7);
    }

    private static void promise13Students() {
        due("promise 13: 0 in a new garden", Gardens::bare, ExamGarden::students, 0);
        due("promise 13: 0 as long as none is enrolled", Gardens::sample, ExamGarden::students, 0);
        due("promise 13: walks do not count", Gardens::walked, ExamGarden::students, 3);
        due("promise 13: 8, the most", Gardens::ladderWalked, ExamGarden::students, 8);
    }

    private static void promise14AtExams() {
        due("promise 14: 0 in a new garden", Gardens::bare, ExamGarden::atExams, 0);
        due("promise 14: 0 without students", Gardens::sample, ExamGarden::atExams, 0);
        due("promise 14: 0 with all 8 at forks", Gardens::ladder, ExamGarden::atExams, 0);
        due("promise 14: 8, the most", Gardens::ladderWalked, ExamGarden::atExams, 8);
        due("promise 14: open exams count", Gardens::walked, ExamGarden::atExams, 2);
        due("promise 14: graded exams count", Gardens::graded, ExamGarden::atExams, 2);
        due("promise 14: one more after follow", after(Gardens::walked, g -> g.follow(1)), ExamGarden::atExams, 3);
        due("promise 14: one less after goBack", after(Gardens::walked, g -> g.goBack(0)), ExamGarden::atExams, 1);
    }

    private static void promises15To17Exams() {
        Supplier<ExamGarden> zero = after(Gardens::sample, g -> g.grade(2, 0));
        due("promise 15: a graded exam is an exam", Gardens::graded, g -> g.isExam(0), true);
        due("promise 15: an exam behind forks", after(Gardens::sample, g -> g.addExam(0, 1)), g -> g.isExam(7), true);
        due("promise 16: an open exam", zero, g -> g.isGraded(1), false);
        due("promise 16: one graded with 0", zero, g -> g.isGraded(2), true);
        due("promise 16: an open exam of one grade", Gardens.oneExam(7, 7), g -> g.isGraded(0), false);
        due("promise 17: -1 of an open exam", zero, g -> g.gradeOf(1), -1);
        due("promise 17: -1 of an open exam of grade 0 alone", Gardens.oneExam(0, 0), g -> g.gradeOf(0), -1);
        due("promise 17: 0, the least", zero, g -> g.gradeOf(2), 0);
        due("promise 17: 20, the greatest", after(Gardens::sample, g -> g.grade(2, 20)), g -> g.gradeOf(2), 20);
    }

    private static void promises18To20Forks() {
        due("promise 18: the left path, not the right one", Gardens::sample, g -> g.leftOf(4), 2);
        due("promise 18: where both lead to one place", Gardens::sample, g -> g.leftOf(6), 5);
        due("promise 18: to place 0", Gardens::sample, g -> g.leftOf(3), 0);
        due("promise 19: the right path, not the left one", Gardens::sample, g -> g.rightOf(4), 1);
        due("promise 19: where both lead to one place", Gardens::sample, g -> g.rightOf(6), 5);
        due("promise 19: to place 38, the last one ahead of 39",
                after(Gardens.exams(39), g -> g.addFork(0, 38, 1)), g -> g.rightOf(39), 38);
        due("promise 20: 1, the least", after(Gardens::sample, g -> g.addFork(0, 0, 1)), g -> g.weightOf(7), 1);
        due("promise 20: 9, the greatest", after(Gardens::sample, g -> g.addFork(0, 0, 9)), g -> g.weightOf(7), 9);
        due("promise 20: that from now on, when weighed", after(Gardens::sample, g -> g.weigh(5, 8)),
                g -> g.weightOf(5), 8);
    }

    private static void promises21And22Students() {
        due("promise 21: where one began", Gardens::walked, g -> g.placeOf(1), 5);
        due("promise 21: where one went", Gardens::walked, g -> g.placeOf(0), 1);
        due("promise 21: where one went back to", after(Gardens::walked, g -> g.goBack(0)), g -> g.placeOf(0), 3);
        due("promise 21: where follow led", after(Gardens::walked, g -> g.follow(1)), g -> g.placeOf(1), 2);
        due("promise 22: 0 at the beginning", Gardens::walked, g -> g.passedBy(1), 0);
        due("promise 22: one for each turn", Gardens::walked, g -> g.passedBy(0), 3);
        due("promise 22: one less after goBack", after(Gardens::walked, g -> g.goBack(0)), g -> g.passedBy(0), 2);
        due("promise 22: 0 again, back where one began", after(Gardens::walked, times(3, g -> g.goBack(0))),
                g -> g.passedBy(0), 0);
        due("promise 22: 39, the most", after(Gardens::chain, g -> g.follow(7)), g -> g.passedBy(7), 39);
    }
}
