/**
 * A garden of forking exams: exams that are graded later, forks from which two paths lead to
 * places added ahead of them, and students who walk, go back, and regret.
 *
 * <p>Every path leads to a smaller number, so one pass over the places in their order settles
 * all that a fork takes over from the places below it, and no walk passes a fork twice.
 */
public final class ExamGarden {
    private static final int MOST_PLACES = 40;
    private static final int MOST_STUDENTS = 8;
    private static final int MOST_PASSED = 40;
    private static final int TOP_GRADE = 20;
    private static final int TOP_WEIGHT = 9;
    private static final int NONE = -1;
    private static final long DIGEST_START = 1039L;
    private static final long DIGEST_FACTOR = 31L;

    private int placeCount;
    private int studentCount;
    private int gradedCount;
    private int gradeSum;

    /** Bit p tells whether place p is an exam. */
    private long examBits;

    // A number for each place: the lowest and highest grades of exams, the paths and weights of forks.
    private final int[] lowestGrades;
    private final int[] highestGrades;
    private final int[] lefts;
    private final int[] rights;
    private final int[] weights;

    /** NONE at an exam that is not graded, and at each fork. */
    private final int[] grades;

    // Kept up to date, so that a question need not walk the garden.
    private final int[] sureGrades;
    private final int[] hopes;
    private final int[] hindsights;

    /** Bit q of the number of place p tells whether p reaches place q. */
    private final long[] reachedBits;

    // A number for each student; the forks passed stand in one row, MOST_PASSED for each student.
    private final int[] standing;
    private final int[] passedCounts;
    private final int[] passedForks;

    public ExamGarden() {
        lowestGrades = new int[MOST_PLACES];
        highestGrades = new int[MOST_PLACES];
        lefts = new int[MOST_PLACES];
        rights = new int[MOST_PLACES];
        weights = new int[MOST_PLACES];
        grades = new int[MOST_PLACES];
        sureGrades = new int[MOST_PLACES];
        hopes = new int[MOST_PLACES];
        hindsights = new int[MOST_PLACES];
        reachedBits = new long[MOST_PLACES];
        standing = new int[MOST_STUDENTS];
        passedCounts = new int[MOST_STUDENTS];
        passedForks = new int[MOST_STUDENTS * MOST_PASSED];
    }

    // ---- the garden

    public int addExam(int lowest, int highest) throws IllegalArgumentException, IllegalStateException {
        if (lowest < 0 || highest > TOP_GRADE || highest < lowest) {
            throw new IllegalArgumentException("an exam has grades from 0 to 20, the lowest one first");
        }
        requireRoom();
        int exam = placeCount;
        examBits |= bitOf(exam);
        put(lowestGrades, exam, lowest);
        put(highestGrades, exam, highest);
        put(grades, exam, NONE);
        putBits(reachedBits, exam, bitOf(exam));
        settleExam(exam);
        placeCount++;
        return exam;
    }

    public int addFork(int left, int right, int weight)
            throws IndexOutOfBoundsException, IllegalArgumentException, IllegalStateException {
        requirePlace(left);
        requirePlace(right);
        requireWeight(weight);
        requireRoom();
        int fork = placeCount;
        put(lefts, fork, left);
        put(rights, fork, right);
        put(weights, fork, weight);
        put(grades, fork, NONE);
        putBits(reachedBits, fork, bitOf(fork) | bitsAt(reachedBits, left) | bitsAt(reachedBits, right));
        settleFork(fork);
        placeCount++;
        return fork;
    }

    public int grade(int exam, int grade)
            throws IndexOutOfBoundsException, IllegalArgumentException, IllegalStateException {
        requireExam(exam);
        if (grade < at(lowestGrades, exam) || grade > at(highestGrades, exam)) {
            throw new IllegalArgumentException("the exam can't have this grade");
        }
        if (hasGrade(exam)) {
            throw new IllegalStateException("the exam is graded");
        }
        put(grades, exam, grade);
        gradedCount++;
        gradeSum += grade;
        settleExam(exam);
        settleForksAfter(exam);
        return gradedCount;
    }

    public int weigh(int fork, int weight) throws IndexOutOfBoundsException, IllegalArgumentException {
        requireFork(fork);
        requireWeight(weight);
        int before = at(weights, fork);
        put(weights, fork, weight);
        return before;
    }

    // ---- students

    public int enroll(int place) throws IndexOutOfBoundsException, IllegalStateException {
        requirePlace(place);
        if (studentCount >= MOST_STUDENTS) {
            throw new IllegalStateException("there are 8 students");
        }
        int student = studentCount;
        put(standing, student, place);
        studentCount++;
        return student;
    }

    public int turn(int student, boolean isRight) throws IndexOutOfBoundsException, IllegalStateException {
        requireStudent(student);
        if (holdsExam(at(standing, student))) {
            throw new IllegalStateException("the student stands at an exam");
        }
        walk(student, isRight);
        return at(standing, student);
    }

    public int goBack(int student) throws IndexOutOfBoundsException, IllegalStateException {
        requireStudent(student);
        int last = at(passedCounts, student) - 1;
        if (last < 0) {
            throw new IllegalStateException("the student passed no fork");
        }
        int fork = passedFork(student, last);
        put(standing, student, fork);
        put(passedCounts, student, last);
        return fork;
    }

    public int follow(int student) throws IndexOutOfBoundsException {
        requireStudent(student);
        int passed = 0;
        while (passed < MOST_PLACES && !holdsExam(at(standing, student))) {
            walk(student, plansRight(at(standing, student)));
            passed++;
        }
        return passed;
    }

    // ---- what there is

    public int places() {
        return placeCount;
    }

    public int exams() {
        return Long.bitCount(examBits);
    }

    public int graded() {
        return gradedCount;
    }

    public int students() {
        return studentCount;
    }

    public int atExams() {
        int count = 0;
        for (int student = 0; student < studentCount; student++) {
            if (holdsExam(at(standing, student))) {
                count++;
            }
        }
        return count;
    }

    public boolean isExam(int place) throws IndexOutOfBoundsException {
        requirePlace(place);
        return holdsExam(place);
    }

    public boolean isGraded(int exam) throws IndexOutOfBoundsException {
        requireExam(exam);
        return hasGrade(exam);
    }

    public int gradeOf(int exam) throws IndexOutOfBoundsException {
        requireExam(exam);
        return at(grades, exam);
    }

    public int leftOf(int fork) throws IndexOutOfBoundsException {
        requireFork(fork);
        return at(lefts, fork);
    }

    public int rightOf(int fork) throws IndexOutOfBoundsException {
        requireFork(fork);
        return at(rights, fork);
    }

    public int weightOf(int fork) throws IndexOutOfBoundsException {
        requireFork(fork);
        return at(weights, fork);
    }

    public int placeOf(int student) throws IndexOutOfBoundsException {
        requireStudent(student);
        return at(standing, student);
    }

    public int passedBy(int student) throws IndexOutOfBoundsException {
        requireStudent(student);
        return at(passedCounts, student);
    }

    // ---- plans

    public int sureGrade(int place) throws IndexOutOfBoundsException {
        requirePlace(place);
        return at(sureGrades, place);
    }

    public int hope(int place) throws IndexOutOfBoundsException {
        requirePlace(place);
        return at(hopes, place);
    }

    public boolean reaches(int place, int other) throws IndexOutOfBoundsException {
        requirePlace(place);
        requirePlace(other);
        return (bitsAt(reachedBits, place) & bitOf(other)) != 0;
    }

    public int examsFrom(int place) throws IndexOutOfBoundsException {
        requirePlace(place);
        return Long.bitCount(bitsAt(reachedBits, place) & examBits);
    }

    public int risk(int fork, boolean isRight) throws IndexOutOfBoundsException {
        requireFork(fork);
        return riskOfPath(fork, isRight);
    }

    public boolean planTurnsRight(int fork) throws IndexOutOfBoundsException {
        requireFork(fork);
        return plansRight(fork);
    }

    public int planLeadsTo(int place) throws IndexOutOfBoundsException {
        requirePlace(place);
        int reached = place;
        for (int step = 0; step < MOST_PLACES && !holdsExam(reached); step++) {
            reached = pathFrom(reached, plansRight(reached));
        }
        return reached;
    }

    public int riskiestFork() {
        int riskiest = NONE;
        int greatest = -1;
        for (int place = 0; place < placeCount; place++) {
            if (!holdsExam(place) && smallerRisk(place) > greatest) {
                riskiest = place;
                greatest = smallerRisk(place);
            }
        }
        return riskiest;
    }

    // ---- hindsight

    public int hindsight(int fork) throws IndexOutOfBoundsException {
        requireFork(fork);
        return at(hindsights, fork);
    }

    public int regretOf(int student) throws IndexOutOfBoundsException, IllegalStateException {
        requireStudent(student);
        requireGraded(student);
        return regretOfAll(student);
    }

    public int worstFork(int student) throws IndexOutOfBoundsException, IllegalStateException {
        requireStudent(student);
        requireGraded(student);
        int worst = NONE;
        int most = 0;
        int passed = at(passedCounts, student);
        for (int step = 0; step < passed; step++) {
            int regret = regretOfStep(student, step);
            if (regret > most) {
                worst = passedFork(student, step);
                most = regret;
            }
        }
        return worst;
    }

    public int allRegret() {
        int sum = 0;
        for (int student = 0; student < studentCount; student++) {
            if (hasGrade(at(standing, student))) {
                sum += regretOfAll(student);
            }
        }
        return sum;
    }

    public double meanGrade() {
        if (gradedCount == 0) {
            return 0.0;
        }
        return (double) gradeSum / (double) gradedCount;
    }

    public long digest() {
        long d = DIGEST_START;
        d = mix(d, places());
        d = mix(d, exams());
        d = mix(d, graded());
        d = mix(d, students());
        d = mix(d, atExams());
        d = mix(d, riskiestFork());
        d = mix(d, allRegret());
        for (int place = 0; place < placeCount; place++) {
            d = mixPlace(d, place);
        }
        for (int student = 0; student < studentCount; student++) {
            d = mix(d, placeOf(student));
            d = mix(d, passedBy(student));
        }
        return d;
    }

    private long mixPlace(long before, int place) {
        long d = mix(before, isExam(place) ? 1 : 0);
        d = mix(d, sureGrade(place));
        d = mix(d, hope(place));
        d = mix(d, examsFrom(place));
        d = mix(d, planLeadsTo(place));
        if (holdsExam(place)) {
            return mix(d, gradeOf(place));
        }
        d = mix(d, leftOf(place));
        d = mix(d, rightOf(place));
        d = mix(d, weightOf(place));
        return mix(d, hindsight(place));
    }

    private static long mix(long d, int x) {
        return d * DIGEST_FACTOR + x;
    }

    // ---- what a call asks for

    private void requireRoom() {
        if (placeCount >= MOST_PLACES) {
            throw new IllegalStateException("there are 40 places");
        }
    }

    private void requirePlace(int place) {
        if (place < 0 || place >= placeCount) {
            throw new IndexOutOfBoundsException("there is no such place");
        }
    }

    private void requireExam(int place) {
        requirePlace(place);
        if (!holdsExam(place)) {
            throw new IndexOutOfBoundsException("the place is no exam");
        }
    }

    private void requireFork(int place) {
        requirePlace(place);
        if (holdsExam(place)) {
            throw new IndexOutOfBoundsException("the place is no fork");
        }
    }

    private static void requireWeight(int weight) {
        if (weight < 1 || weight > TOP_WEIGHT) {
            throw new IllegalArgumentException("a weight is 1 to 9");
        }
    }

    private void requireStudent(int student) {
        if (student < 0 || student >= studentCount) {
            throw new IndexOutOfBoundsException("there is no such student");
        }
    }

    private void requireGraded(int student) {
        if (!hasGrade(at(standing, student))) {
            throw new IllegalStateException("the student does not stand at a graded exam");
        }
    }

    // ---- places

    private boolean holdsExam(int place) {
        return (examBits & bitOf(place)) != 0;
    }

    private boolean hasGrade(int place) {
        return at(grades, place) != NONE;
    }

    private void settleExam(int exam) {
        boolean isOpen = !hasGrade(exam);
        int grade = at(grades, exam);
        put(sureGrades, exam, isOpen ? at(lowestGrades, exam) : grade);
        put(hopes, exam, isOpen ? at(highestGrades, exam) : grade);
        put(hindsights, exam, isOpen ? 0 : grade);
    }

    private void settleFork(int fork) {
        settleGreater(sureGrades, fork);
        settleGreater(hopes, fork);
        settleGreater(hindsights, fork);
    }

    private void settleGreater(int[] row, int fork) {
        put(row, fork, Math.max(at(row, at(lefts, fork)), at(row, at(rights, fork))));
    }

    private void settleForksAfter(int exam) {
        for (int place = exam + 1; place < placeCount; place++) {
            if (!holdsExam(place)) {
                settleFork(place);
            }
        }
    }

    private int pathFrom(int fork, boolean isRight) {
        return isRight ? at(rights, fork) : at(lefts, fork);
    }

    private int riskOfPath(int fork, boolean isRight) {
        int sure = at(sureGrades, pathFrom(fork, isRight));
        int missed = at(hopes, pathFrom(fork, !isRight));
        return Math.max(0, missed - sure) * at(weights, fork);
    }

    private boolean plansRight(int fork) {
        return riskOfPath(fork, true) < riskOfPath(fork, false);
    }

    private int smallerRisk(int fork) {
        return Math.min(riskOfPath(fork, false), riskOfPath(fork, true));
    }

    // ---- walks

    private void walk(int student, boolean isRight) {
        int fork = at(standing, student);
        int passed = at(passedCounts, student);
        put(passedForks, student * MOST_PASSED + passed, fork);
        put(passedCounts, student, passed + 1);
        put(standing, student, pathFrom(fork, isRight));
    }

    private int passedFork(int student, int step) {
        return at(passedForks, student * MOST_PASSED + step);
    }

    private int regretOfStep(int student, int step) {
        int fork = passedFork(student, step);
        int grade = at(grades, at(standing, student));
        return Math.max(0, at(hindsights, fork) - grade) * at(weights, fork);
    }

    private int regretOfAll(int student) {
        int sum = 0;
        int passed = at(passedCounts, student);
        for (int step = 0; step < passed; step++) {
            sum += regretOfStep(student, step);
        }
        return sum;
    }

    // ---- rows
    // Every index goes through here and is looked at, so that the machine itself never throws.

    private static int at(int[] row, int index) {
        return index >= 0 && index < row.length ? row[index] : 0;
    }

    private static void put(int[] row, int index, int value) {
        if (index >= 0 && index < row.length) {
            row[index] = value;
        }
    }

    private static long bitsAt(long[] row, int index) {
        return index >= 0 && index < row.length ? row[index] : 0L;
    }

    private static void putBits(long[] row, int index, long bits) {
        if (index >= 0 && index < row.length) {
            row[index] = bits;
        }
    }

    private static long bitOf(int place) {
        return 1L << place;
    }
}
