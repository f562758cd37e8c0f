import java.util.function.Supplier;

/**
 * The numbers of places and students, for each method that takes one: the first and the last that
 * there is, and those beside them that there are not.
 */
final class NumberCases extends Cases {
    private interface Numbered {
        Object of(ExamGarden garden, int number);

        default Call with(int number) {
            return garden -> of(garden, number);
        }
    }

    static void run() {
        placesAllowed();
        examsAllowed();
        forksAllowed();
        studentsAllowed();
        placesRefused();
        examsRefused();
        forksRefused();
        studentsRefused();
    }

    private static void placesAllowed() {
        Supplier<ExamGarden> exams = Gardens.exams(40);
        allowed("promise 6: enroll", exams, (g, n) -> g.enroll(n), 0, 0, 39, 0);
        allowed("promise 15: isExam", exams, (g, n) -> g.isExam(n), 0, true, 39, true);
        allowed("promise 15: isExam of forks", Gardens::ladder, (g, n) -> g.isExam(n), 2, false, 39, false);
        allowed("promise 23: sureGrade", exams, (g, n) -> g.sureGrade(n), 0, 0, 39, 9);
        allowed("promise 24: hope", exams, (g, n) -> g.hope(n), 0, 20, 39, 11);
        allowed("promise 25: reaches from", Gardens::ladder, (g, n) -> g.reaches(n, 1), 0, false, 39, true);
        allowed("promise 25: reaches to", Gardens::ladder, (g, n) -> g.reaches(38, n), 0, true, 39, false);
        allowed("promise 26: examsFrom", Gardens::ladder, (g, n) -> g.examsFrom(n), 0, 1, 39, 2);
        allowed("promise 29: planLeadsTo", Gardens::ladder, (g, n) -> g.planLeadsTo(n), 0, 0, 39, 1);
        Supplier<ExamGarden> nearlyFull = Gardens.exams(39);
        allowed("promise 3: addFork, left", nearlyFull, (g, n) -> g.addFork(n, 5, 1), 0, 39, 38, 39);
        allowed("promise 3: addFork, right", nearlyFull, (g, n) -> g.addFork(5, n, 1), 0, 39, 38, 39);
    }

    private static void examsAllowed() {
        Supplier<ExamGarden> exams = Gardens.exams(40);
        Supplier<ExamGarden> graded = after(exams, g -> g.grade(0, 0), g -> g.grade(39, 11));
        allowed("promise 4: grade", exams, (g, n) -> g.grade(n, 10), 0, 1, 39, 1);
        allowed("promise 16: isGraded of open exams", exams, (g, n) -> g.isGraded(n), 0, false, 39, false);
        allowed("promise 16: isGraded", graded, (g, n) -> g.isGraded(n), 0, true, 39, true);
        allowed("promise 17: gradeOf", graded, (g, n) -> g.gradeOf(n), 0, 0, 39, 11);
    }

    private static void forksAllowed() {
        Supplier<ExamGarden> ladder = Gardens::ladder;
        allowed("promise 5: weigh", ladder, (g, n) -> g.weigh(n, 5), 2, 3, 39, 4);
        allowed("promise 18: leftOf", ladder, (g, n) -> g.leftOf(n), 2, 1, 39, 38);
        Supplier<ExamGarden> manyForks =
                after(Gardens.exams(2), g -> g.addFork(0, 1, 1), times(37, g -> g.addFork(0, 2, 1)));
        allowed("promise 19: rightOf", manyForks, (g, n) -> g.rightOf(n), 2, 1, 39, 2);
        allowed("promise 20: weightOf", ladder, (g, n) -> g.weightOf(n), 2, 3, 39, 4);
        allowed("promise 27: risk to the left", ladder, (g, n) -> g.risk(n, false), 2, 51, 39, 56);
        allowed("promise 27: risk to the right", ladder, (g, n) -> g.risk(n, true), 2, 51, 39, 68);
        allowed("promise 28: planTurnsRight", ladder, (g, n) -> g.planTurnsRight(n), 2, false, 39, false);
        allowed("promise 31: hindsight", Gardens::ladderWalked, (g, n) -> g.hindsight(n), 2, 20, 39, 20);
    }

    private static void studentsAllowed() {
        Supplier<ExamGarden> ladder = Gardens::ladder;
        Supplier<ExamGarden> walked = Gardens::ladderWalked;
        allowed("promise 7: turn to the left", ladder, (g, n) -> g.turn(n, false), 0, 38, 7, 31);
        allowed("promise 7: turn to the right", ladder, (g, n) -> g.turn(n, true), 0, 0, 7, 0);
        allowed("promise 8: goBack", walked, (g, n) -> g.goBack(n), 0, 39, 7, 32);
        allowed("promise 9: follow", ladder, (g, n) -> g.follow(n), 0, 38, 7, 31);
        allowed("promise 21: placeOf", ladder, (g, n) -> g.placeOf(n), 0, 39, 7, 32);
        allowed("promise 22: passedBy", walked, (g, n) -> g.passedBy(n), 0, 1, 7, 1);
        allowed("promise 32: regretOf", walked, (g, n) -> g.regretOf(n), 0, 60, 7, 90);
        allowed("promise 33: worstFork", walked, (g, n) -> g.worstFork(n), 0, 39, 7, 32);
    }

    private static void allowed(String asked, Supplier<ExamGarden> made, Numbered call,
            int first, Object ofFirst, int last, Object ofLast) {
        due(asked + ", " + first + ", the first one there is", made, call.with(first), ofFirst);
        due(asked + ", " + last + ", the last one there is", made, call.with(last), ofLast);
    }

    private static void placesRefused() {
        noSuchPlace("promise 3: addFork, left", (g, n) -> g.addFork(n, 0, 1));
        noSuchPlace("promise 3: addFork, right", (g, n) -> g.addFork(0, n, 1));
        noSuchPlace("promise 6: enroll", (g, n) -> g.enroll(n));
        noSuchPlace("promise 15: isExam", (g, n) -> g.isExam(n));
        noSuchPlace("promise 23: sureGrade", (g, n) -> g.sureGrade(n));
        noSuchPlace("promise 24: hope", (g, n) -> g.hope(n));
        noSuchPlace("promise 25: reaches from", (g, n) -> g.reaches(n, 0));
        noSuchPlace("promise 25: reaches to", (g, n) -> g.reaches(0, n));
        noSuchPlace("promise 26: examsFrom", (g, n) -> g.examsFrom(n));
        noSuchPlace("promise 29: planLeadsTo", (g, n) -> g.planLeadsTo(n));
    }

    private static void noSuchPlace(String asked, Numbered call) {
        outside(asked, Gardens::walked, call);
        refused(asked + ", 7, one behind the last", Gardens::walked, call.with(7), BOUNDS);
        refused(asked + ", 64, 64 behind the first", Gardens::walked, call.with(64), BOUNDS);
        refused(asked + ", 40 in a full garden", Gardens::ladder, call.with(40), BOUNDS);
        refused(asked + ", 0 without places", Gardens::bare, call.with(0), BOUNDS);
    }

    private static void outside(String asked, Supplier<ExamGarden> made, Numbered call) {
        refused(asked + ", -1, one ahead of the first", made, call.with(-1), BOUNDS);
        refused(asked + ", the least int", made, call.with(LEAST), BOUNDS);
        refused(asked + ", the greatest int", made, call.with(GREATEST), BOUNDS);
    }

    private static void examsRefused() {
        noSuchExam("promise 4: grade", (g, n) -> g.grade(n, 9));
        noSuchExam("promise 16: isGraded", (g, n) -> g.isGraded(n));
        noSuchExam("promise 17: gradeOf", (g, n) -> g.gradeOf(n));
    }

    private static void noSuchExam(String asked, Numbered call) {
        noSuchPlace(asked, call);
        refused(asked + ", 3, the first fork", Gardens::graded, call.with(3), BOUNDS);
        refused(asked + ", 39, the last fork of a full garden", Gardens::ladder, call.with(39), BOUNDS);
    }

    private static void forksRefused() {
        noSuchFork("promise 5: weigh", (g, n) -> g.weigh(n, 3));
        noSuchFork("promise 18: leftOf", (g, n) -> g.leftOf(n));
        noSuchFork("promise 19: rightOf", (g, n) -> g.rightOf(n));
        noSuchFork("promise 20: weightOf", (g, n) -> g.weightOf(n));
        noSuchFork("promise 27: risk to the left", (g, n) -> g.risk(n, false));
        noSuchFork("promise 27: risk to the right", (g, n) -> g.risk(n, true));
        noSuchFork("promise 28: planTurnsRight", (g, n) -> g.planTurnsRight(n));
        noSuchFork("promise 31: hindsight", (g, n) -> g.hindsight(n));
    }

    private static void noSuchFork(String asked, Numbered call) {
        noSuchPlace(asked, call);
        refused(asked + ", 0, an open exam", Gardens::walked, call.with(0), BOUNDS);
        refused(asked + ", 2, a graded exam", Gardens::graded, call.with(2), BOUNDS);
        refused(asked + ", 39, the last exam of a full garden", Gardens.exams(40), call.with(39), BOUNDS);
    }

    private static void studentsRefused() {
        noSuchStudent("promise 7: turn to the left", (g, n) -> g.turn(n, false));
        noSuchStudent("promise 7: turn to the right", (g, n) -> g.turn(n, true));
        noSuchStudent("promise 8: goBack", (g, n) -> g.goBack(n));
        noSuchStudent("promise 9: follow", (g, n) -> g.follow(n));
        noSuchStudent("promise 21: placeOf", (g, n) -> g.placeOf(n));
        noSuchStudent("promise 22: passedBy", (g, n) -> g.passedBy(n));
        noSuchStudent("promise 32: regretOf", (g, n) -> g.regretOf(n));
        noSuchStudent("promise 33: worstFork", (g, n) -> g.worstFork(n));
    }

    private static void noSuchStudent(String asked, Numbered call) {
        outside(asked, Gardens::graded, call);
        refused(asked + ", 3, one behind the last", Gardens::graded, call.with(3), BOUNDS);
        refused(asked + ", 8 where there are 8", Gardens::ladderWalked, call.with(8), BOUNDS);
        refused(asked + ", 0 without students", Gardens::sample, call.with(0), BOUNDS);
        refused(asked + ", 0 in a new garden", Gardens::bare, call.with(0), BOUNDS);
    }
}
