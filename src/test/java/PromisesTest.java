/** Answers worked out by hand from the document, a method for each of the promises 1 to 36. */
public final class PromisesTest {
    private static final Class<IndexOutOfBoundsException> BOUNDS = IndexOutOfBoundsException.class;
    private static final Class<IllegalArgumentException> ARGUMENT = IllegalArgumentException.class;
    private static final Class<IllegalStateException> STATE = IllegalStateException.class;
    private static final int[] NO_PLACES = {-1, 7, 39, 40, 63, 64, 71, Integer.MAX_VALUE, Integer.MIN_VALUE};
    private static final int[] NO_STUDENTS = {-1, 3, 7, 8, 40, Integer.MAX_VALUE, Integer.MIN_VALUE};

    private static final Checks CHECKS = new Checks();

    public static void main(String[] args) {
        promise1NewObject();
        promise2AddExam();
        promise3AddFork();
        promise4Grade();
        promise5Weigh();
        promise6Enroll();
        promise7Turn();
        promise8GoBack();
        promise9Follow();
        promises10To12Places();
        promises13And14Students();
        promise15IsExam();
        promise16IsGraded();
        promise17GradeOf();
        promise18LeftOf();
        promise19RightOf();
        promise20WeightOf();
        promise21PlaceOf();
        promise22PassedBy();
        promise23SureGrade();
        promise24Hope();
        promise25Reaches();
        promise26ExamsFrom();
        promise27Risk();
        promise28PlanTurnsRight();
        promise29PlanLeadsTo();
        promise30RiskiestFork();
        promise31Hindsight();
        promise32RegretOf();
        promise33WorstFork();
        promise34AllRegret();
        promise35MeanGrade();
        promise36Digest();
        CHECKS.finish();
    }

    /** Exams 0 to 2, fork 3 to 0 and 1, fork 4 to 2 and 1, fork 5 to 3 and 4, fork 6 to 5 twice. */
    private static ExamGarden sample() {
        ExamGarden garden = new ExamGarden();
        garden.addExam(3, 12);
        garden.addExam(8, 9);
        garden.addExam(0, 20);
        garden.addFork(0, 1, 2);
        garden.addFork(2, 1, 5);
        garden.addFork(3, 4, 3);
        garden.addFork(5, 5, 4);
        return garden;
    }

    /** Student 0 walked 6, 5, 3, 1; student 1 stands at fork 5; student 2 at exam 2, where it began. */
    private static ExamGarden walked() {
        ExamGarden garden = sample();
        garden.enroll(6);
        garden.enroll(5);
        garden.enroll(2);
        garden.turn(0, true);
        garden.turn(0, false);
        garden.turn(0, true);
        return garden;
    }

    /** As walked, with the grades 5, 9 and 17. */
    private static ExamGarden allGraded() {
        ExamGarden garden = walked();
        garden.grade(0, 5);
        garden.grade(1, 9);
        garden.grade(2, 17);
        return garden;
    }

    private static void same(String what, long got, long due) {
        CHECKS.same(what, got, due);
    }

    private static void same(String what, boolean got, boolean due) {
        CHECKS.same(what, got, due);
    }

    private interface Question {
        void of(ExamGarden garden, int number);
    }

    private static void refusesNumbers(String what, int[] numbers, Question question) {
        ExamGarden garden = walked();
        for (int number : numbers) {
            CHECKS.refuses(what + " of " + number, garden, BOUNDS, () -> question.of(garden, number));
        }
        ExamGarden bare = new ExamGarden();
        CHECKS.refuses(what + " in a new garden", bare, BOUNDS, () -> question.of(bare, 0));
    }

    private static void refusesNoPlaces(String what, Question question) {
        refusesNumbers(what, NO_PLACES, question);
    }

    private static void refusesNoExams(String what, Question question) {
        refusesNoPlaces(what, question);
        refusesNumbers(what, new int[] {3, 6}, question);
    }

    private static void refusesNoForks(String what, Question question) {
        refusesNoPlaces(what, question);
        refusesNumbers(what, new int[] {0, 2}, question);
    }

    private static void refusesNoStudents(String what, Question question) {
        refusesNumbers(what, NO_STUDENTS, question);
    }

    private static void promise1NewObject() {
        ExamGarden garden = new ExamGarden();
        same("places()", garden.places(), 0);
        same("exams()", garden.exams(), 0);
        same("graded()", garden.graded(), 0);
        same("students()", garden.students(), 0);
        same("atExams()", garden.atExams(), 0);
        sample();
        same("places() beside another garden", garden.places(), 0);
    }

    private static void promise2AddExam() {
        ExamGarden garden = new ExamGarden();
        same("addExam(0, 20)", garden.addExam(0, 20), 0);
        same("addExam(0, 0)", garden.addExam(0, 0), 1);
        same("addExam(20, 20)", garden.addExam(20, 20), 2);
        same("sureGrade(2)", garden.sureGrade(2), 20);
        CHECKS.refuses("addExam(-1, 4)", garden, ARGUMENT, () -> garden.addExam(-1, 4));
        CHECKS.refuses("addExam(4, 21)", garden, ARGUMENT, () -> garden.addExam(4, 21));
        CHECKS.refuses("addExam(15, 14)", garden, ARGUMENT, () -> garden.addExam(15, 14));
        CHECKS.refuses("addExam(extremes)", garden, ARGUMENT,
                () -> garden.addExam(Integer.MIN_VALUE, Integer.MAX_VALUE));
        for (int place = 3; place < 40; place++) {
            same("addExam(1, 2)", garden.addExam(1, 2), place);
        }
        CHECKS.refuses("a 41st exam", garden, STATE, () -> garden.addExam(1, 2));
        CHECKS.refuses("a wrong 41st exam", garden, ARGUMENT, () -> garden.addExam(2, 1));
        same("places()", garden.places(), 40);
    }

    private static void promise3AddFork() {
        ExamGarden garden = new ExamGarden();
        CHECKS.refuses("a fork in a new garden", garden, BOUNDS, () -> garden.addFork(0, 0, 1));
        garden.addExam(3, 4);
        same("addFork(0, 0, 1)", garden.addFork(0, 0, 1), 1);
        same("addFork(1, 0, 9)", garden.addFork(1, 0, 9), 2);
        CHECKS.refuses("a fork to itself on the left", garden, BOUNDS, () -> garden.addFork(3, 0, 1));
        CHECKS.refuses("a fork to itself on the right", garden, BOUNDS, () -> garden.addFork(0, 3, 1));
        CHECKS.refuses("addFork(-1, 0, 1)", garden, BOUNDS, () -> garden.addFork(-1, 0, 1));
        CHECKS.refuses("addFork(0, -1, 1)", garden, BOUNDS, () -> garden.addFork(0, -1, 1));
        CHECKS.refuses("addFork(0, 40, 0)", garden, BOUNDS, () -> garden.addFork(0, 40, 0));
        CHECKS.refuses("addFork(0, 0, 0)", garden, ARGUMENT, () -> garden.addFork(0, 0, 0));
        CHECKS.refuses("addFork(0, 0, 10)", garden, ARGUMENT, () -> garden.addFork(0, 0, 10));
        CHECKS.refuses("addFork(0, 0, -5)", garden, ARGUMENT, () -> garden.addFork(0, 0, -5));
        for (int place = 3; place < 40; place++) {
            same("addFork", garden.addFork(place - 1, place - 2, 2), place);
        }
        CHECKS.refuses("a 41st place", garden, STATE, () -> garden.addFork(0, 39, 1));
        CHECKS.refuses("a wrong weight in a full garden", garden, ARGUMENT, () -> garden.addFork(0, 39, 0));
        CHECKS.refuses("no such place in a full garden", garden, BOUNDS, () -> garden.addFork(40, 0, 0));
        same("places()", garden.places(), 40);
    }

    private static void promise4Grade() {
        ExamGarden garden = sample();
        CHECKS.refuses("grade(0, 2)", garden, ARGUMENT, () -> garden.grade(0, 2));
        CHECKS.refuses("grade(0, 13)", garden, ARGUMENT, () -> garden.grade(0, 13));
        same("grade(1, 9), the highest one", garden.grade(1, 9), 1);
        same("grade(0, 3), the lowest one", garden.grade(0, 3), 2);
        CHECKS.refuses("grade(1, 8) again", garden, STATE, () -> garden.grade(1, 8));
        CHECKS.refuses("grade(1, 9) again", garden, STATE, () -> garden.grade(1, 9));
        CHECKS.refuses("grade(1, 10) again", garden, ARGUMENT, () -> garden.grade(1, 10));
        CHECKS.refuses("grade(3, 99) at a fork", garden, BOUNDS, () -> garden.grade(3, 99));
        same("grade(2, 0)", garden.grade(2, 0), 3);
        same("isGraded(2)", garden.isGraded(2), true);
        CHECKS.refuses("grade(2, 0) again", garden, STATE, () -> garden.grade(2, 0));
        refusesNoExams("grade", (g, number) -> g.grade(number, 99));
    }

    private static void promise5Weigh() {
        ExamGarden garden = sample();
        same("weigh(3, 9)", garden.weigh(3, 9), 2);
        same("weigh(3, 1)", garden.weigh(3, 1), 9);
        same("weightOf(3)", garden.weightOf(3), 1);
        same("weightOf(4)", garden.weightOf(4), 5);
        CHECKS.refuses("weigh(3, 0)", garden, ARGUMENT, () -> garden.weigh(3, 0));
        CHECKS.refuses("weigh(3, 10)", garden, ARGUMENT, () -> garden.weigh(3, 10));
        CHECKS.refuses("weigh(3, -9)", garden, ARGUMENT, () -> garden.weigh(3, -9));
        refusesNoForks("weigh", (g, number) -> g.weigh(number, 3));
        refusesNoForks("weigh with a wrong weight", (g, number) -> g.weigh(number, 0));
    }

    private static void promise6Enroll() {
        ExamGarden garden = sample();
        for (int student = 0; student < 8; student++) {
            same("enroll", garden.enroll(6 - student % 7), student);
        }
        same("placeOf(0)", garden.placeOf(0), 6);
        same("placeOf(6)", garden.placeOf(6), 0);
        same("placeOf(7)", garden.placeOf(7), 6);
        CHECKS.refuses("a 9th student", garden, STATE, () -> garden.enroll(0));
        CHECKS.refuses("a 9th student at no place", garden, BOUNDS, () -> garden.enroll(7));
        refusesNoPlaces("enroll", ExamGarden::enroll);
    }

    private static void promise7Turn() {
        ExamGarden garden = sample();
        garden.enroll(6);
        garden.enroll(4);
        same("turn(0, true)", garden.turn(0, true), 5);
        same("turn(0, false)", garden.turn(0, false), 3);
        same("turn(1, true)", garden.turn(1, true), 1);
        same("turn(0, false)", garden.turn(0, false), 0);
        same("placeOf(0)", garden.placeOf(0), 0);
        same("placeOf(1)", garden.placeOf(1), 1);
        CHECKS.refuses("turn(0, true) at an exam", garden, STATE, () -> garden.turn(0, true));
        CHECKS.refuses("turn(1, false) at an exam", garden, STATE, () -> garden.turn(1, false));
        refusesNoStudents("turn to the left", (g, number) -> g.turn(number, false));
        refusesNoStudents("turn to the right", (g, number) -> g.turn(number, true));
    }

    private static void promise8GoBack() {
        ExamGarden garden = walked();
        same("goBack(0)", garden.goBack(0), 3);
        same("goBack(0)", garden.goBack(0), 5);
        same("turn(0, true)", garden.turn(0, true), 4);
        same("goBack(0)", garden.goBack(0), 5);
        same("goBack(0)", garden.goBack(0), 6);
        same("placeOf(0)", garden.placeOf(0), 6);
        CHECKS.refuses("goBack(0) at the beginning", garden, STATE, () -> garden.goBack(0));
        CHECKS.refuses("goBack(1)", garden, STATE, () -> garden.goBack(1));
        CHECKS.refuses("goBack(2)", garden, STATE, () -> garden.goBack(2));
        refusesNoStudents("goBack", ExamGarden::goBack);
    }

    private static void promise9Follow() {
        ExamGarden garden = walked();
        same("follow(1)", garden.follow(1), 2);
        same("placeOf(1)", garden.placeOf(1), 2);
        same("passedBy(1)", garden.passedBy(1), 2);
        same("goBack(1)", garden.goBack(1), 4);
        same("follow(0) at an exam", garden.follow(0), 0);
        same("placeOf(0)", garden.placeOf(0), 1);
        refusesNoStudents("follow", ExamGarden::follow);
        followLongest();
    }

    /** 39 forks one below the other: the most that a student can pass. */
    private static void followLongest() {
        ExamGarden garden = new ExamGarden();
        garden.addExam(7, 7);
        for (int place = 1; place < 40; place++) {
            garden.addFork(place - 1, 0, 1);
        }
        for (int student = 0; student < 8; student++) {
            garden.enroll(39);
        }
        for (int student = 0; student < 8; student++) {
            same("follow all the way", garden.follow(student), 39);
            same("passedBy all the way", garden.passedBy(student), 39);
        }
        for (int place = 1; place < 40; place++) {
            same("goBack all the way", garden.goBack(3), place);
            same("goBack all the way of another", garden.goBack(7), place);
        }
        CHECKS.refuses("goBack at the top", garden, STATE, () -> garden.goBack(7));
        same("passedBy(4)", garden.passedBy(4), 39);
    }

    private static void promises10To12Places() {
        ExamGarden garden = sample();
        same("places()", garden.places(), 7);
        same("exams()", garden.exams(), 3);
        same("graded()", garden.graded(), 0);
        garden.grade(2, 0);
        same("graded()", garden.graded(), 1);
        garden.grade(1, 8);
        same("graded()", garden.graded(), 2);
        garden.addFork(0, 0, 1);
        same("places() with a fork more", garden.places(), 8);
        same("exams() with a fork more", garden.exams(), 3);
        garden.addExam(0, 0);
        same("places() with an exam more", garden.places(), 9);
        same("exams() with an exam more", garden.exams(), 4);
        same("graded() with an exam more", garden.graded(), 2);
        while (garden.places() < 40) {
            garden.addExam(0, 1);
        }
        same("exams() of a full garden", garden.exams(), 35);
        same("isExam(39)", garden.isExam(39), true);
    }

    private static void promises13And14Students() {
        ExamGarden garden = walked();
        same("students()", garden.students(), 3);
        same("atExams()", garden.atExams(), 2);
        garden.follow(1);
        same("atExams() after follow", garden.atExams(), 3);
        garden.goBack(0);
        same("atExams() after goBack", garden.atExams(), 2);
        same("students()", garden.students(), 3);
    }

    private static void promise15IsExam() {
        ExamGarden garden = sample();
        same("isExam(0)", garden.isExam(0), true);
        same("isExam(2)", garden.isExam(2), true);
        same("isExam(3)", garden.isExam(3), false);
        same("isExam(6)", garden.isExam(6), false);
        refusesNoPlaces("isExam", ExamGarden::isExam);
    }

    private static void promise16IsGraded() {
        ExamGarden garden = sample();
        garden.grade(2, 0);
        same("isGraded(1)", garden.isGraded(1), false);
        same("isGraded(2), with 0", garden.isGraded(2), true);
        refusesNoExams("isGraded", ExamGarden::isGraded);
    }

    private static void promise17GradeOf() {
        ExamGarden garden = sample();
        same("gradeOf(2)", garden.gradeOf(2), -1);
        garden.grade(2, 20);
        garden.grade(0, 4);
        same("gradeOf(2)", garden.gradeOf(2), 20);
        same("gradeOf(0)", garden.gradeOf(0), 4);
        same("gradeOf(1)", garden.gradeOf(1), -1);
        refusesNoExams("gradeOf", ExamGarden::gradeOf);
    }

    private static void promise18LeftOf() {
        ExamGarden garden = sample();
        same("leftOf(3)", garden.leftOf(3), 0);
        same("leftOf(4)", garden.leftOf(4), 2);
        same("leftOf(6)", garden.leftOf(6), 5);
        refusesNoForks("leftOf", ExamGarden::leftOf);
    }

    private static void promise19RightOf() {
        ExamGarden garden = sample();
        same("rightOf(3)", garden.rightOf(3), 1);
        same("rightOf(5)", garden.rightOf(5), 4);
        same("rightOf(6)", garden.rightOf(6), 5);
        refusesNoForks("rightOf", ExamGarden::rightOf);
    }

    private static void promise20WeightOf() {
        ExamGarden garden = sample();
        same("weightOf(3)", garden.weightOf(3), 2);
        same("weightOf(6)", garden.weightOf(6), 4);
        refusesNoForks("weightOf", ExamGarden::weightOf);
    }

    private static void promise21PlaceOf() {
        ExamGarden garden = walked();
        same("placeOf(0)", garden.placeOf(0), 1);
        same("placeOf(1)", garden.placeOf(1), 5);
        same("placeOf(2)", garden.placeOf(2), 2);
        refusesNoStudents("placeOf", ExamGarden::placeOf);
    }

    private static void promise22PassedBy() {
        ExamGarden garden = walked();
        same("passedBy(0)", garden.passedBy(0), 3);
        same("passedBy(1)", garden.passedBy(1), 0);
        garden.goBack(0);
        same("passedBy(0) after goBack", garden.passedBy(0), 2);
        refusesNoStudents("passedBy", ExamGarden::passedBy);
    }

    private static void promise23SureGrade() {
        ExamGarden garden = sample();
        same("sureGrade(0)", garden.sureGrade(0), 3);
        same("sureGrade(2)", garden.sureGrade(2), 0);
        same("sureGrade(3)", garden.sureGrade(3), 8);
        same("sureGrade(6)", garden.sureGrade(6), 8);
        garden.grade(0, 12);
        same("sureGrade(0) graded", garden.sureGrade(0), 12);
        same("sureGrade(3) graded", garden.sureGrade(3), 12);
        same("sureGrade(4) graded", garden.sureGrade(4), 8);
        same("sureGrade(6) graded", garden.sureGrade(6), 12);
        refusesNoPlaces("sureGrade", ExamGarden::sureGrade);
    }

    private static void promise24Hope() {
        ExamGarden garden = sample();
        same("hope(0)", garden.hope(0), 12);
        same("hope(3)", garden.hope(3), 12);
        same("hope(4)", garden.hope(4), 20);
        same("hope(6)", garden.hope(6), 20);
        garden.grade(2, 10);
        same("hope(2) graded", garden.hope(2), 10);
        same("hope(4) graded", garden.hope(4), 10);
        same("hope(6) graded", garden.hope(6), 12);
        refusesNoPlaces("hope", ExamGarden::hope);
    }

    private static void promise25Reaches() {
        ExamGarden garden = sample();
        same("reaches(5, 0)", garden.reaches(5, 0), true);
        same("reaches(6, 2)", garden.reaches(6, 2), true);
        same("reaches(6, 3)", garden.reaches(6, 3), true);
        same("reaches(3, 3)", garden.reaches(3, 3), true);
        same("reaches(0, 0)", garden.reaches(0, 0), true);
        same("reaches(3, 2)", garden.reaches(3, 2), false);
        same("reaches(4, 0)", garden.reaches(4, 0), false);
        same("reaches(0, 3)", garden.reaches(0, 3), false);
        refusesNoPlaces("reaches, place", (g, number) -> g.reaches(number, 0));
        refusesNoPlaces("reaches, other", (g, number) -> g.reaches(0, number));
        reachesLast();
    }

    /** Numbers above 31, where an int would not do for a set of places. */
    private static void reachesLast() {
        ExamGarden garden = new ExamGarden();
        for (int place = 0; place < 38; place++) {
            garden.addExam(0, 20);
        }
        garden.addFork(37, 2, 1);
        garden.addFork(38, 36, 1);
        same("reaches(39, 37)", garden.reaches(39, 37), true);
        same("reaches(39, 2)", garden.reaches(39, 2), true);
        same("reaches(39, 5)", garden.reaches(39, 5), false);
        same("reaches(39, 34)", garden.reaches(39, 34), false);
        same("reaches(39, 38)", garden.reaches(39, 38), true);
        same("examsFrom(39)", garden.examsFrom(39), 3);
        same("exams()", garden.exams(), 38);
    }

    private static void promise26ExamsFrom() {
        ExamGarden garden = sample();
        same("examsFrom(1)", garden.examsFrom(1), 1);
        same("examsFrom(3)", garden.examsFrom(3), 2);
        same("examsFrom(5), one exam reached twice", garden.examsFrom(5), 3);
        same("examsFrom(6)", garden.examsFrom(6), 3);
        garden.grade(1, 8);
        same("examsFrom(3), one graded", garden.examsFrom(3), 2);
        refusesNoPlaces("examsFrom", ExamGarden::examsFrom);
    }

    private static void promise27Risk() {
        ExamGarden garden = sample();
        same("risk(3, false)", garden.risk(3, false), 12);
        same("risk(3, true)", garden.risk(3, true), 8);
        same("risk(4, false)", garden.risk(4, false), 45);
        same("risk(4, true)", garden.risk(4, true), 60);
        same("risk(6, false)", garden.risk(6, false), 48);
        same("risk(6, true)", garden.risk(6, true), 48);
        garden.grade(0, 12);
        same("risk(3, false), at least 0", garden.risk(3, false), 0);
        same("risk(3, true)", garden.risk(3, true), 8);
        garden.weigh(3, 9);
        same("risk(3, true), weighed", garden.risk(3, true), 36);
        refusesNoForks("risk to the left", (g, number) -> g.risk(number, false));
        refusesNoForks("risk to the right", (g, number) -> g.risk(number, true));
    }

    private static void promise28PlanTurnsRight() {
        ExamGarden garden = sample();
        same("planTurnsRight(3)", garden.planTurnsRight(3), true);
        same("planTurnsRight(4)", garden.planTurnsRight(4), false);
        same("planTurnsRight(5)", garden.planTurnsRight(5), true);
        same("planTurnsRight(6), both the same", garden.planTurnsRight(6), false);
        garden.grade(0, 12);
        same("planTurnsRight(3), graded", garden.planTurnsRight(3), false);
        refusesNoForks("planTurnsRight", ExamGarden::planTurnsRight);
    }

    private static void promise29PlanLeadsTo() {
        ExamGarden garden = sample();
        same("planLeadsTo(1)", garden.planLeadsTo(1), 1);
        same("planLeadsTo(3)", garden.planLeadsTo(3), 1);
        same("planLeadsTo(5)", garden.planLeadsTo(5), 2);
        same("planLeadsTo(6)", garden.planLeadsTo(6), 2);
        garden.grade(2, 0);
        same("planLeadsTo(6), graded", garden.planLeadsTo(6), 1);
        refusesNoPlaces("planLeadsTo", ExamGarden::planLeadsTo);
    }

    private static void promise30RiskiestFork() {
        ExamGarden garden = new ExamGarden();
        same("riskiestFork() of none", garden.riskiestFork(), -1);
        garden.addExam(5, 5);
        same("riskiestFork() of exams alone", garden.riskiestFork(), -1);
        garden.addFork(0, 0, 9);
        garden.addFork(0, 0, 9);
        same("riskiestFork() without risk, the first one", garden.riskiestFork(), 1);
        ExamGarden other = sample();
        same("riskiestFork()", other.riskiestFork(), 6);
        other.weigh(6, 1);
        same("riskiestFork(), weighed", other.riskiestFork(), 4);
        other.addFork(2, 1, 5);
        same("riskiestFork(), the same risk twice", other.riskiestFork(), 4);
        other.weigh(7, 6);
        same("riskiestFork(), the last one", other.riskiestFork(), 7);
    }

    private static void promise31Hindsight() {
        ExamGarden garden = sample();
        same("hindsight(6) without grades", garden.hindsight(6), 0);
        garden.grade(0, 5);
        same("hindsight(3)", garden.hindsight(3), 5);
        same("hindsight(4)", garden.hindsight(4), 0);
        same("hindsight(6)", garden.hindsight(6), 5);
        garden.grade(2, 0);
        same("hindsight(4), with 0", garden.hindsight(4), 0);
        garden.grade(1, 9);
        same("hindsight(3)", garden.hindsight(3), 9);
        same("hindsight(4)", garden.hindsight(4), 9);
        garden.addFork(0, 0, 1);
        same("hindsight(7) added later", garden.hindsight(7), 5);
        refusesNoForks("hindsight", ExamGarden::hindsight);
    }

    private static void promise32RegretOf() {
        ExamGarden garden = walked();
        garden.grade(2, 17);
        CHECKS.refuses("regretOf(0) at an open exam", garden, STATE, () -> garden.regretOf(0));
        CHECKS.refuses("regretOf(1) at a fork", garden, STATE, () -> garden.regretOf(1));
        garden.grade(1, 9);
        same("regretOf(0)", garden.regretOf(0), 4 * 8 + 3 * 8);
        same("regretOf(2) without forks", garden.regretOf(2), 0);
        garden.weigh(5, 9);
        same("regretOf(0), weighed", garden.regretOf(0), 4 * 8 + 9 * 8);
        garden.grade(0, 12);
        same("regretOf(0), another graded", garden.regretOf(0), 4 * 8 + 9 * 8 + 2 * 3);
        garden.goBack(0);
        CHECKS.refuses("regretOf(0) back at a fork", garden, STATE, () -> garden.regretOf(0));
        garden.turn(0, false);
        same("regretOf(0) at exam 0", garden.regretOf(0), 4 * 5 + 9 * 5);
        refusesNoStudents("regretOf", ExamGarden::regretOf);
        same("regretOf(0) without the forks gone back from", wentBack().regretOf(0), 2 * 10);
    }

    /** Student 0 passed 3 and 2 first, but went back to 3 and passed it alone on the way to exam 0. */
    private static ExamGarden wentBack() {
        ExamGarden garden = new ExamGarden();
        garden.addExam(0, 20);
        garden.addExam(0, 20);
        garden.addFork(0, 1, 3);
        garden.addFork(2, 0, 2);
        garden.enroll(3);
        garden.turn(0, false);
        garden.turn(0, false);
        garden.goBack(0);
        garden.goBack(0);
        garden.turn(0, true);
        garden.grade(0, 5);
        garden.grade(1, 15);
        return garden;
    }

    private static void promise33WorstFork() {
        ExamGarden garden = walked();
        CHECKS.refuses("worstFork(0) at an open exam", garden, STATE, () -> garden.worstFork(0));
        CHECKS.refuses("worstFork(1) at a fork", garden, STATE, () -> garden.worstFork(1));
        garden.grade(1, 9);
        same("worstFork(0) without regret", garden.worstFork(0), -1);
        garden.grade(2, 17);
        same("worstFork(0)", garden.worstFork(0), 6);
        garden.weigh(5, 4);
        same("worstFork(0), the same twice, the one passed first", garden.worstFork(0), 6);
        garden.weigh(5, 5);
        same("worstFork(0), weighed", garden.worstFork(0), 5);
        garden.grade(0, 12);
        garden.weigh(3, 9);
        same("worstFork(0), still", garden.worstFork(0), 5);
        garden.weigh(5, 1);
        garden.weigh(6, 3);
        same("worstFork(0), the last one passed", garden.worstFork(0), 3);
        garden.addExam(1, 1);
        garden.grade(7, 1);
        garden.enroll(7);
        same("worstFork(3) without forks passed", garden.worstFork(3), -1);
        refusesNoStudents("worstFork", ExamGarden::worstFork);
        same("worstFork(0) without the forks gone back from", wentBack().worstFork(0), 3);
        worstForkOfOne();
    }

    private static void worstForkOfOne() {
        ExamGarden garden = new ExamGarden();
        garden.addExam(4, 5);
        garden.addExam(4, 5);
        garden.addFork(0, 1, 1);
        garden.enroll(2);
        garden.turn(0, false);
        garden.grade(0, 4);
        garden.grade(1, 5);
        same("regretOf(0) of 1", garden.regretOf(0), 1);
        same("worstFork(0) with a regret of 1", garden.worstFork(0), 2);
    }

    private static void promise34AllRegret() {
        ExamGarden garden = walked();
        same("allRegret() without grades", garden.allRegret(), 0);
        garden.grade(1, 9);
        garden.grade(2, 17);
        same("allRegret() with a student at a fork", garden.allRegret(), 56);
        garden.turn(1, true);
        garden.turn(1, true);
        same("allRegret()", garden.allRegret(), 56 + 3 * 8 + 5 * 8);
        garden.goBack(0);
        same("allRegret() after goBack", garden.allRegret(), 3 * 8 + 5 * 8);
        garden.turn(0, false);
        same("allRegret() with a student at an open exam", garden.allRegret(), 3 * 8 + 5 * 8);
        same("allRegret() of a new garden", new ExamGarden().allRegret(), 0);
    }

    private static void promise35MeanGrade() {
        ExamGarden garden = new ExamGarden();
        CHECKS.sameMean("meanGrade() of a new garden", garden.meanGrade(), 0.0);
        ExamGarden other = sample();
        CHECKS.sameMean("meanGrade() without grades", other.meanGrade(), 0.0);
        other.grade(2, 0);
        CHECKS.sameMean("meanGrade() of 0", other.meanGrade(), 0.0);
        other.grade(1, 9);
        CHECKS.sameMean("meanGrade() of two", other.meanGrade(), 4.5);
        other.grade(0, 4);
        CHECKS.sameMean("meanGrade() of three", other.meanGrade(), 13.0 / 3.0);
    }

    private static void promise36Digest() {
        same("digest() of a new garden", new ExamGarden().digest(), digestOf(0, 0, 0, 0, 0, -1, 0));
        ExamGarden small = new ExamGarden();
        small.addExam(2, 6);
        small.addFork(0, 0, 3);
        small.enroll(1);
        same("digest() of a small garden", small.digest(),
                digestOf(2, 1, 0, 1, 0, 1, 0, 1, 2, 6, 1, 0, -1, 0, 2, 6, 1, 0, 0, 0, 3, 0, 1, 0));
        small.turn(0, true);
        small.grade(0, 5);
        same("digest() of it, graded", small.digest(),
                digestOf(2, 1, 1, 1, 1, 1, 0, 1, 5, 5, 1, 0, 5, 0, 5, 5, 1, 0, 0, 0, 3, 5, 0, 1));
        same("digest() of the sample", allGraded().digest(), digestOf(
                7, 3, 3, 3, 2, 3, 56,
                1, 5, 5, 1, 0, 5,
                1, 9, 9, 1, 1, 9,
                1, 17, 17, 1, 2, 17,
                0, 9, 9, 2, 1, 0, 1, 2, 9,
                0, 17, 17, 2, 2, 2, 1, 5, 17,
                0, 17, 17, 3, 2, 3, 4, 3, 17,
                0, 17, 17, 3, 2, 5, 5, 4, 17,
                1, 3, 5, 0, 2, 0));
    }

    private static long digestOf(int... numbers) {
        long d = 1039;
        for (int x : numbers) {
            d = d * 31 + x;
        }
        return d;
    }
}
