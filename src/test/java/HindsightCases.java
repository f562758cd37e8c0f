import java.math.BigInteger;
import java.util.ArrayList;
import java.util.List;
import java.util.function.Supplier;

/** The promises 31 to 36: hindsight, regret, the mean grade and the checksum. */
final class HindsightCases extends Cases {
    private static final BigInteger LONGS = BigInteger.ONE.shiftLeft(64);

    static void run() {
        promise31Hindsight();
        promise32RegretOf();
        promise32Refused();
        promise33WorstFork();
        promise33Refused();
        promise34AllRegret();
        promise35MeanGrade();
        promise36Digest();
        promise36Wraps();
    }

    private static void promise31Hindsight() {
        due("promise 31: 0 without grades", Gardens::sample, g -> g.hindsight(6), 0);
        due("promise 31: 0 where none that it reaches is graded", after(Gardens::sample, g -> g.grade(0, 5)),
                g -> g.hindsight(4), 0);
        due("promise 31: 0 with a grade of 0", after(Gardens::sample, g -> g.grade(2, 0)), g -> g.hindsight(4), 0);
        due("promise 31: 20, the greatest", after(Gardens::sample, g -> g.grade(2, 20)), g -> g.hindsight(6), 20);
        due("promise 31: one grade alone", after(Gardens::sample, g -> g.grade(0, 5)),
                all(g -> g.hindsight(3), g -> g.hindsight(5), g -> g.hindsight(6)), "5 5 5");
        due("promise 31: the greatest of several", Gardens::graded,
                all(g -> g.hindsight(3), g -> g.hindsight(4), g -> g.hindsight(6)), "9 17 17");
        due("promise 31: a smaller grade later changes nothing",
                after(Gardens::sample, g -> g.grade(2, 17), g -> g.grade(1, 8)), g -> g.hindsight(4), 17);
        due("promise 31: of a fork added after the grades", after(Gardens::graded, g -> g.addFork(0, 0, 1)),
                g -> g.hindsight(7), 5);
        due("promise 31: of place 39, 39 forks up", after(Gardens::chain, g -> g.grade(0, 13)),
                g -> g.hindsight(39), 13);
    }

    private static void promise32RegretOf() {
        due("promise 32: 0 without forks passed", Gardens::graded, g -> g.regretOf(2), 0);
        due("promise 32: all forks passed, added", Gardens::graded, g -> g.regretOf(0), 4 * 8 + 3 * 8);
        due("promise 32: other exams may be open", after(Gardens::walked, g -> g.grade(1, 9)), g -> g.regretOf(0), 0);
        due("promise 32: by the weights of the moment", after(Gardens::graded, g -> g.weigh(5, 9)),
                g -> g.regretOf(0), 4 * 8 + 9 * 8);
        due("promise 32: by the grades of the moment",
                after(Gardens::walked, g -> g.grade(1, 9), g -> g.grade(2, 17), g -> g.grade(0, 12)),
                g -> g.regretOf(0), 4 * 8 + 3 * 8 + 2 * 3);
        due("promise 32: at a grade of 0", after(Gardens.pair(7), g -> g.turn(0, true), g -> g.grade(1, 0),
                g -> g.grade(0, 20)), g -> g.regretOf(0), 140);
        due("promise 32: forks gone back from do not count", HindsightCases::wentBack, g -> g.regretOf(0), 2 * 10);
        due("promise 32: 6840, the most, of 38 forks with 180 each", HindsightCases::mostRegret,
                g -> g.regretOf(7), 6840);
    }

    /** Student 0 passed 3 and 2 first, but went back to 3 and passed it alone on the way to exam 0. */
    private static ExamGarden wentBack() {
        ExamGarden garden = Gardens.exams(2).get();
        garden.addFork(0, 1, 3);
        garden.addFork(2, 0, 2);
        garden.enroll(3);
        garden.turn(0, false);
        garden.turn(0, false);
        garden.goBack(0);
        garden.goBack(0);
        garden.turn(0, true);
        garden.grade(0, 5);
        garden.grade(1, 15);
        return garden;
    }

    /** All 8 students pass forks 39 to 2, of the weight 9, to exam 0 of grade 0; exam 1 has grade 20. */
    private static ExamGarden mostRegret() {
        ExamGarden garden = Gardens.exams(2).get();
        garden.addFork(0, 1, 9);
        for (int place = 3; place < 40; place++) {
            garden.addFork(place - 1, place - 1, 9);
        }
        for (int student = 0; student < 8; student++) {
            garden.enroll(39);
            garden.follow(student);
        }
        garden.grade(0, 0);
        garden.grade(1, 20);
        return garden;
    }

    private static void promise32Refused() {
        Supplier<ExamGarden> open = after(Gardens::walked, g -> g.grade(2, 17));
        refused("promise 32: at an open exam", open, g -> g.regretOf(0), STATE);
        refused("promise 32: at a fork", Gardens::graded, g -> g.regretOf(1), STATE);
        refused("promise 32: at an open exam where the student began", Gardens::walked, g -> g.regretOf(2), STATE);
        refused("promise 32: back at a fork, from a graded exam", after(Gardens::graded, g -> g.goBack(0)),
                g -> g.regretOf(0), STATE);
    }

    private static void promise33WorstFork() {
        Supplier<ExamGarden> graded = Gardens::graded;
        due("promise 33: -1 without forks passed", graded, g -> g.worstFork(2), -1);
        due("promise 33: -1 where nothing is regretted", after(Gardens::walked, g -> g.grade(1, 9)),
                g -> g.worstFork(0), -1);
        due("promise 33: -1 where the grade is the greatest one",
                after(Gardens.pair(9), g -> g.turn(0, false), g -> g.grade(0, 8), g -> g.grade(1, 7)),
                g -> g.worstFork(0), -1);
        due("promise 33: a fork with a regret of 1, the least",
                after(Gardens.pair(1), g -> g.turn(0, false), g -> g.grade(0, 8), g -> g.grade(1, 9)),
                g -> g.worstFork(0), 2);
        due("promise 33: the first one passed, with the most", graded, g -> g.worstFork(0), 6);
        due("promise 33: of two the same the one passed first", after(graded, g -> g.weigh(5, 4)),
                g -> g.worstFork(0), 6);
        due("promise 33: of two the same behind the first the one passed first", HindsightCases::laterSame,
                g -> g.worstFork(0), 4);
        due("promise 33: one passed later, with more", after(graded, g -> g.weigh(5, 5)), g -> g.worstFork(0), 5);
        due("promise 33: the last one passed, with the most",
                after(Gardens::walked, g -> g.grade(1, 8), g -> g.grade(0, 12), g -> g.weigh(3, 5)),
                g -> g.worstFork(0), 3);
        due("promise 33: a fork gone back from does not count", HindsightCases::wentBack, g -> g.worstFork(0), 3);
        due("promise 33: of 38 the same the one passed first", HindsightCases::mostRegret, g -> g.worstFork(7), 39);
    }

    /** Student 0 passed forks 5, 4, 3 and 2, of the weights 1, 6, 6 and 6, to exam 0 of grade 8, not 9. */
    private static ExamGarden laterSame() {
        ExamGarden garden = Gardens.exams(2).get();
        garden.addFork(0, 1, 6);
        garden.addFork(2, 2, 6);
        garden.addFork(3, 3, 6);
        garden.addFork(4, 4, 1);
        garden.enroll(5);
        garden.follow(0);
        garden.grade(0, 8);
        garden.grade(1, 9);
        return garden;
    }

    private static void promise33Refused() {
        Supplier<ExamGarden> open = after(Gardens::walked, g -> g.grade(2, 17));
        refused("promise 33: at an open exam", open, g -> g.worstFork(0), STATE);
        refused("promise 33: at a fork", Gardens::graded, g -> g.worstFork(1), STATE);
        refused("promise 33: at an open exam where the student began", Gardens::walked, g -> g.worstFork(2), STATE);
        refused("promise 33: back at a fork, from a graded exam", after(Gardens::graded, g -> g.goBack(0)),
                g -> g.worstFork(0), STATE);
    }

    private static void promise34AllRegret() {
        Supplier<ExamGarden> both = after(Gardens::graded, g -> g.turn(1, true), g -> g.turn(1, true));
        due("promise 34: 0 in a new garden", Gardens::bare, ExamGarden::allRegret, 0);
        due("promise 34: 0 without students", after(Gardens::sample, g -> g.grade(2, 17)), ExamGarden::allRegret, 0);
        due("promise 34: 0 without grades", Gardens::walked, ExamGarden::allRegret, 0);
        due("promise 34: students at forks do not count", Gardens::graded, ExamGarden::allRegret, 56);
        due("promise 34: of two students, added", both, ExamGarden::allRegret, 56 + 3 * 8 + 5 * 8);
        due("promise 34: students back at forks do not count", after(both, g -> g.goBack(0)),
                ExamGarden::allRegret, 3 * 8 + 5 * 8);
        due("promise 34: students at open exams do not count",
                after(Gardens::walked, g -> g.grade(2, 17), g -> g.follow(1)), ExamGarden::allRegret, 0);
        due("promise 34: of all 8 students", Gardens::ladderWalked, ExamGarden::allRegret, 555);
        due("promise 34: 54720, the most", HindsightCases::mostRegret, ExamGarden::allRegret, 54720);
    }

    private static void promise35MeanGrade() {
        Supplier<ExamGarden> sample = Gardens::sample;
        due("promise 35: 0 in a new garden", Gardens::bare, ExamGarden::meanGrade, 0.0);
        due("promise 35: 0 without grades", sample, ExamGarden::meanGrade, 0.0);
        due("promise 35: 0, the least, of a grade of 0", after(sample, g -> g.grade(2, 0)), ExamGarden::meanGrade, 0.0);
        due("promise 35: 20, the greatest", after(sample, g -> g.grade(2, 20)), ExamGarden::meanGrade, 20.0);
        due("promise 35: a half", after(sample, g -> g.grade(2, 0), g -> g.grade(1, 9)), ExamGarden::meanGrade, 4.5);
        due("promise 35: a third", after(sample, g -> g.grade(2, 0), g -> g.grade(1, 9), g -> g.grade(0, 4)),
                ExamGarden::meanGrade, 13.0 / 3.0);
        due("promise 35: open exams do not count", after(sample, g -> g.grade(0, 11)), ExamGarden::meanGrade, 11.0);
        due("promise 35: of 40 exams, the most", HindsightCases::fortyGraded, ExamGarden::meanGrade, 781.0 / 40.0);
    }

    /** 39 exams of grade 20 and one of grade 1. */
    private static ExamGarden fortyGraded() {
        ExamGarden garden = new ExamGarden();
        for (int exam = 0; exam < 40; exam++) {
            garden.addExam(0, 20);
            garden.grade(exam, exam == 39 ? 1 : 20);
        }
        return garden;
    }

    private static void promise36Digest() {
        Supplier<ExamGarden> small = after(Gardens.oneExam(2, 6), g -> g.addFork(0, 0, 3), g -> g.enroll(1));
        due("promise 36: of a new garden", Gardens::bare, ExamGarden::digest, digestOf(0, 0, 0, 0, 0, -1, 0));
        due("promise 36: of an open exam", Gardens.oneExam(2, 6), ExamGarden::digest,
                digestOf(1, 1, 0, 0, 0, -1, 0, 1, 2, 6, 1, 0, -1));
        due("promise 36: of an exam, a fork and a student", small, ExamGarden::digest,
                digestOf(2, 1, 0, 1, 0, 1, 0, 1, 2, 6, 1, 0, -1, 0, 2, 6, 1, 0, 0, 0, 3, 0, 1, 0));
        due("promise 36: of them, walked and graded", after(small, g -> g.turn(0, true), g -> g.grade(0, 5)),
                ExamGarden::digest,
                digestOf(2, 1, 1, 1, 1, 1, 0, 1, 5, 5, 1, 0, 5, 0, 5, 5, 1, 0, 0, 0, 3, 5, 0, 1));
        due("promise 36: of the sample, walked and graded", Gardens::graded, ExamGarden::digest, digestOf(
                7, 3, 3, 3, 2, 3, 56,
                1, 5, 5, 1, 0, 5,
                1, 9, 9, 1, 1, 9,
                1, 17, 17, 1, 2, 17,
                0, 9, 9, 2, 1, 0, 1, 2, 9,
                0, 17, 17, 2, 2, 2, 1, 5, 17,
                0, 17, 17, 3, 2, 3, 4, 3, 17,
                0, 17, 17, 3, 2, 5, 5, 4, 17,
                1, 3, 5, 0, 2, 0));
        due("promise 36: changes nothing", Gardens::graded, times(2, ExamGarden::digest), Gardens.graded().digest());
    }

    private static long digestOf(int... numbers) {
        long d = 1039;
        for (int x : numbers) {
            d = d * 31 + x;
        }
        return d;
    }

    private static void promise36Wraps() {
        wraps("promise 36: wraps around in a full garden of exams and forks", Gardens::ladderWalked);
        wraps("promise 36: wraps around in a full garden of exams", Gardens.exams(40));
        wraps("promise 36: wraps around with the greatest regret", HindsightCases::mostRegret);
    }

    private static void wraps(String name, Supplier<ExamGarden> made) {
        BigInteger d = BigInteger.valueOf(1039);
        for (long x : numbersOf(made.get())) {
            d = d.multiply(BigInteger.valueOf(31)).add(BigInteger.valueOf(x));
        }
        boolean isLong = d.bitLength() < 64;
        due(name, made, all(ExamGarden::digest, g -> isLong), d.mod(LONGS).longValue() + " false");
    }

    private static List<Long> numbersOf(ExamGarden g) {
        List<Integer> numbers = new ArrayList<>(List.of(g.places(), g.exams(), g.graded(), g.students(), g.atExams(),
                g.riskiestFork(), g.allRegret()));
        int places = numbers.get(0);
        int students = numbers.get(3);
        for (int p = 0; p < places; p++) {
            boolean isExam = g.isExam(p);
            numbers.addAll(List.of(isExam ? 1 : 0, g.sureGrade(p), g.hope(p), g.examsFrom(p), g.planLeadsTo(p)));
            numbers.addAll(isExam ? List.of(g.gradeOf(p))
                    : List.of(g.leftOf(p), g.rightOf(p), g.weightOf(p), g.hindsight(p)));
        }
        for (int s = 0; s < students; s++) {
            numbers.addAll(List.of(g.placeOf(s), g.passedBy(s)));
        }
        return numbers.stream().map(Integer::longValue).toList();
    }
}
