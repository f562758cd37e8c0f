import java.util.ArrayList;
import java.util.List;
import java.util.TreeSet;

/** The document once more, with nothing kept that can be worked out anew at each question. */
public final class GardenModel {
    private static final class Place {
        int number;
        boolean isExam;
        int lowest;
        int highest;
        Integer grade;
        Place left;
        Place right;
        int weight;
    }

    private static final class Student {
        Place place;
        final List<Place> passed = new ArrayList<>();

        boolean isAtGraded() {
            return place.isExam && place.grade != null;
        }
    }

    private final List<Place> places = new ArrayList<>();
    private final List<Student> students = new ArrayList<>();

    // The sets of places reached never change once a place stands.
    private final List<TreeSet<Integer>> reached = new ArrayList<>();

    public long addExam(int lowest, int highest) {
        check(lowest >= 0 && highest <= 20 && highest >= lowest, new IllegalArgumentException());
        check(places.size() < 40, new IllegalStateException());
        Place exam = new Place();
        exam.isExam = true;
        exam.lowest = lowest;
        exam.highest = highest;
        return add(exam);
    }

    public long addFork(int left, int right, int weight) {
        Place l = place(left);
        Place r = place(right);
        check(weight >= 1 && weight <= 9, new IllegalArgumentException());
        check(places.size() < 40, new IllegalStateException());
        Place fork = new Place();
        fork.left = l;
        fork.right = r;
        fork.weight = weight;
        return add(fork);
    }

    private long add(Place place) {
        place.number = places.size();
        places.add(place);
        TreeSet<Integer> all = new TreeSet<>();
        all.add(place.number);
        if (!place.isExam) {
            all.addAll(reached.get(place.left.number));
            all.addAll(reached.get(place.right.number));
        }
        reached.add(all);
        return place.number;
    }

    public long grade(int exam, int grade) {
        Place place = exam(exam);
        check(grade >= place.lowest && grade <= place.highest, new IllegalArgumentException());
        check(place.grade == null, new IllegalStateException());
        place.grade = grade;
        return graded();
    }

    public long weigh(int fork, int weight) {
        Place place = fork(fork);
        check(weight >= 1 && weight <= 9, new IllegalArgumentException());
        long before = place.weight;
        place.weight = weight;
        return before;
    }

    public long enroll(int place) {
        Student student = new Student();
        student.place = place(place);
        check(students.size() < 8, new IllegalStateException());
        students.add(student);
        return students.size() - 1;
    }

    public long turn(int student, boolean isRight) {
        Student walker = student(student);
        check(!walker.place.isExam, new IllegalStateException());
        walker.passed.add(walker.place);
        walker.place = isRight ? walker.place.right : walker.place.left;
        return walker.place.number;
    }

    public long goBack(int student) {
        Student walker = student(student);
        check(!walker.passed.isEmpty(), new IllegalStateException());
        walker.place = walker.passed.remove(walker.passed.size() - 1);
        return walker.place.number;
    }

    public long follow(int student) {
        Student walker = student(student);
        if (walker.place.isExam) {
            return 0;
        }
        turn(student, plan(walker.place));
        return 1 + follow(student);
    }

    public long places() {
        return places.size();
    }

    public long exams() {
        return places.stream().filter(p -> p.isExam).count();
    }

    public long graded() {
        return places.stream().filter(p -> p.grade != null).count();
    }

    public long students() {
        return students.size();
    }

    public long atExams() {
        return students.stream().filter(s -> s.place.isExam).count();
    }

    public boolean isExam(int place) {
        return place(place).isExam;
    }

    public boolean isGraded(int exam) {
        return exam(exam).grade != null;
    }

    public long gradeOf(int exam) {
        Integer grade = exam(exam).grade;
        return grade == null ? -1 : grade;
    }

    public long leftOf(int fork) {
        return fork(fork).left.number;
    }

    public long rightOf(int fork) {
        return fork(fork).right.number;
    }

    public long weightOf(int fork) {
        return fork(fork).weight;
    }

    public long placeOf(int student) {
        return student(student).place.number;
    }

    public long passedBy(int student) {
        return student(student).passed.size();
    }

    public long sureGrade(int place) {
        return sure(place(place));
    }

    public long hope(int place) {
        return hoped(place(place));
    }

    public boolean reaches(int place, int other) {
        return reached.get(place(place).number).contains(place(other).number);
    }

    public long examsFrom(int place) {
        return reached.get(place(place).number).stream().filter(p -> places.get(p).isExam).count();
    }

    public long risk(int fork, boolean isRight) {
        return riskOf(fork(fork), isRight);
    }

    public boolean planTurnsRight(int fork) {
        return plan(fork(fork));
    }

    public long planLeadsTo(int place) {
        Place p = place(place);
        return p.isExam ? place : planLeadsTo(plan(p) ? p.right.number : p.left.number);
    }

    public long riskiestFork() {
        long best = -1;
        long greatest = Long.MIN_VALUE;
        for (Place p : places) {
            long smaller = p.isExam ? Long.MIN_VALUE : Math.min(riskOf(p, false), riskOf(p, true));
            if (smaller > greatest) {
                greatest = smaller;
                best = p.number;
            }
        }
        return best;
    }

    public long hindsight(int fork) {
        return hindsightOf(fork(fork));
    }

    public long regretOf(int student) {
        Student walker = student(student);
        check(walker.isAtGraded(), new IllegalStateException());
        return walker.passed.stream().mapToLong(fork -> regretAt(fork, walker.place.grade)).sum();
    }

    public long worstFork(int student) {
        Student walker = student(student);
        check(walker.isAtGraded(), new IllegalStateException());
        long most = walker.passed.stream().mapToLong(f -> regretAt(f, walker.place.grade)).max().orElse(0);
        if (most == 0) {
            return -1;
        }
        return walker.passed.stream().filter(f -> regretAt(f, walker.place.grade) == most)
                .findFirst().orElseThrow().number;
    }

    public long allRegret() {
        long sum = 0;
        for (int student = 0; student < students.size(); student++) {
            sum += students.get(student).isAtGraded() ? regretOf(student) : 0;
        }
        return sum;
    }

    public double meanGrade() {
        return places.stream().filter(p -> p.grade != null).mapToInt(p -> p.grade).average().orElse(0);
    }

    public long digest() {
        List<Long> numbers = new ArrayList<>(List.of(places(), exams(), graded(), students(), atExams(),
                riskiestFork(), allRegret()));
        for (int p = 0; p < places.size(); p++) {
            numbers.addAll(List.of(isExam(p) ? 1L : 0L, sureGrade(p), hope(p), examsFrom(p), planLeadsTo(p)));
            numbers.addAll(places.get(p).isExam ? List.of(gradeOf(p))
                    : List.of(leftOf(p), rightOf(p), weightOf(p), hindsight(p)));
        }
        for (int s = 0; s < students.size(); s++) {
            numbers.addAll(List.of(placeOf(s), passedBy(s)));
        }
        long d = 1039;
        for (long x : numbers) {
            d = d * 31 + x;
        }
        return d;
    }

    private static void check(boolean holds, RuntimeException otherwise) {
        if (!holds) {
            throw otherwise;
        }
    }

    private Place place(int number) {
        check(number >= 0 && number < places.size(), new IndexOutOfBoundsException());
        return places.get(number);
    }

    private Place exam(int number) {
        check(place(number).isExam, new IndexOutOfBoundsException());
        return place(number);
    }

    private Place fork(int number) {
        check(!place(number).isExam, new IndexOutOfBoundsException());
        return place(number);
    }

    private Student student(int number) {
        check(number >= 0 && number < students.size(), new IndexOutOfBoundsException());
        return students.get(number);
    }

    // The greatest one of two places, over and over, is the greatest one of all exams reached.

    private int sure(Place place) {
        return examsBelow(place).stream().mapToInt(e -> e.grade == null ? e.lowest : e.grade).max().orElseThrow();
    }

    private int hoped(Place place) {
        return examsBelow(place).stream().mapToInt(e -> e.grade == null ? e.highest : e.grade).max().orElseThrow();
    }

    private int hindsightOf(Place fork) {
        return examsBelow(fork).stream().filter(e -> e.grade != null).mapToInt(e -> e.grade).max().orElse(0);
    }

    private List<Place> examsBelow(Place place) {
        List<Place> exams = new ArrayList<>();
        for (int number : reached.get(place.number)) {
            if (places.get(number).isExam) {
                exams.add(places.get(number));
            }
        }
        return exams;
    }

    private long riskOf(Place fork, boolean isRight) {
        Place chosen = isRight ? fork.right : fork.left;
        Place other = isRight ? fork.left : fork.right;
        return (long) Math.max(hoped(other) - sure(chosen), 0) * fork.weight;
    }

    private boolean plan(Place fork) {
        return riskOf(fork, true) < riskOf(fork, false);
    }

    private long regretAt(Place fork, int grade) {
        return (long) Math.max(hindsightOf(fork) - grade, 0) * fork.weight;
    }
}
