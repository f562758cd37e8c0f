import java.util.function.Supplier;

/** The gardens that the tests begin with. */
final class Gardens {
    private Gardens() {
    }

    static ExamGarden bare() {
        return new ExamGarden();
    }

    /** Exams 0 to 2, fork 3 to 0 and 1, fork 4 to 2 and 1, fork 5 to 3 and 4, fork 6 to 5 twice. */
    static ExamGarden sample() {
        ExamGarden garden = new ExamGarden();
        garden.addExam(3, 12);
        garden.addExam(8, 9);
        garden.addExam(0, 20);
        garden.addFork(0, 1, 2);
        garden.addFork(2, 1, 5);
        garden.addFork(3, 4, 3);
        garden.addFork(5, 5, 4);
        return garden;
    }

    /** Student 0 walked 6, 5, 3, 1; student 1 stands at fork 5; student 2 at exam 2, where it began. */
    static ExamGarden walked() {
        ExamGarden garden = sample();
        garden.enroll(6);
        garden.enroll(5);
        garden.enroll(2);
        garden.turn(0, true);
        garden.turn(0, false);
        garden.turn(0, true);
        return garden;
    }

    /** As walked, with the grades 5, 9 and 17. */
    static ExamGarden graded() {
        ExamGarden garden = walked();
        garden.grade(0, 5);
        garden.grade(1, 9);
        garden.grade(2, 17);
        return garden;
    }

    static Supplier<ExamGarden> oneExam(int lowest, int highest) {
        return () -> {
            ExamGarden garden = new ExamGarden();
            garden.addExam(lowest, highest);
            return garden;
        };
    }

    /** Exam 0 to the left and exam 1 to the right of fork 2, where student 0 stands; 0 to 20 each. */
    static Supplier<ExamGarden> pair(int weight) {
        return pair(0, 20, 0, 20, weight);
    }

    static Supplier<ExamGarden> pair(int lowLeft, int highLeft, int lowRight, int highRight, int weight) {
        return () -> {
            ExamGarden garden = new ExamGarden();
            garden.addExam(lowLeft, highLeft);
            garden.addExam(lowRight, highRight);
            garden.addFork(0, 1, weight);
            garden.enroll(2);
            return garden;
        };
    }

    /** Exams alone; exam p has the grades from p / 4 to 20 - p / 4, so 0 to 20 and, at 39, 9 to 11. */
    static Supplier<ExamGarden> exams(int count) {
        return () -> {
            ExamGarden garden = new ExamGarden();
            for (int place = 0; place < count; place++) {
                garden.addExam(place / 4, 20 - place / 4);
            }
            return garden;
        };
    }

    /** Exam 0 and 39 forks, to the one below and to exam 0: the most forks that a student can pass. */
    static ExamGarden chain() {
        ExamGarden garden = new ExamGarden();
        garden.addExam(3, 17);
        for (int place = 1; place < 40; place++) {
            garden.addFork(place - 1, 0, 1 + place % 9);
        }
        for (int student = 0; student < 8; student++) {
            garden.enroll(39);
        }
        return garden;
    }

    /**
     * Full of places and students: exam 0 of 3 to 17, exam 1 of 0 to 20, and forks, each to the place
     * ahead of it and to exam 0, of the weight 1 + p % 9; student s stands at fork 39 - s.
     */
    static ExamGarden ladder() {
        ExamGarden garden = new ExamGarden();
        garden.addExam(3, 17);
        garden.addExam(0, 20);
        for (int place = 2; place < 40; place++) {
            garden.addFork(place - 1, 0, 1 + place % 9);
        }
        for (int student = 0; student < 8; student++) {
            garden.enroll(39 - student);
        }
        return garden;
    }

    /** As the ladder, graded with 5 and 20; all have turned to the right but for 1, who went on to exam 1. */
    static ExamGarden ladderWalked() {
        ExamGarden garden = ladder();
        garden.follow(1);
        for (int student = 0; student < 8; student++) {
            if (student != 1) {
                garden.turn(student, true);
            }
        }
        garden.grade(0, 5);
        garden.grade(1, 20);
        return garden;
    }
}
