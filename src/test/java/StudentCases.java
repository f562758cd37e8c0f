import java.util.function.Supplier;

/** The promises 6 to 9: students, and how they walk. */
final class StudentCases extends Cases {
    static void run() {
        promise6Enroll();
        promise6Refused();
        promise7Turn();
        promise7Refused();
        promise8GoBack();
        promise8Refused();
        promise9Follow();
    }

    private static void promise6Enroll() {
        due("promise 6: a number for each student", Gardens::sample, all(g -> g.enroll(6), g -> g.enroll(2)), "0 1");
        due("promise 6: at an exam", Gardens::sample,
                all(g -> g.enroll(2), g -> g.placeOf(0), ExamGarden::atExams), "0 2 1");
        due("promise 6: at a graded exam", Gardens::graded, all(g -> g.enroll(1), g -> g.regretOf(3)), "3 0");
        due("promise 6: at a fork", Gardens::sample,
                all(g -> g.enroll(4), g -> g.placeOf(0), ExamGarden::atExams), "0 4 0");
        due("promise 6: the 8th student", after(Gardens::sample, times(7, g -> g.enroll(6))), g -> g.enroll(5), 7);
        due("promise 6: a new student passed no fork", after(Gardens::walked, g -> g.enroll(1)), g -> g.passedBy(3), 0);
    }

    private static void promise6Refused() {
        refused("promise 6: a 9th student at a fork", Gardens::ladderWalked, g -> g.enroll(39), STATE);
        refused("promise 6: a 9th student at an exam", Gardens::ladderWalked, g -> g.enroll(0), STATE);
        refused("promise 6: no such place comes ahead of a 9th student", Gardens::ladder, g -> g.enroll(40), BOUNDS);
        refused("promise 6: a place of -1 comes ahead of a 9th student", Gardens::ladder, g -> g.enroll(-1), BOUNDS);
    }

    private static void promise7Turn() {
        due("promise 7: to the left", Gardens::walked, all(g -> g.turn(1, false), g -> g.placeOf(1)), "3 3");
        due("promise 7: to the right", Gardens::walked, all(g -> g.turn(1, true), g -> g.placeOf(1)), "4 4");
        due("promise 7: to the left where both paths lead to one place", after(Gardens::sample, g -> g.enroll(6)),
                g -> g.turn(0, false), 5);
        due("promise 7: to the right where both paths lead to one place", after(Gardens::sample, g -> g.enroll(6)),
                g -> g.turn(0, true), 5);
        due("promise 7: from fork to fork to exam", Gardens::walked,
                all(g -> g.turn(1, true), g -> g.turn(1, true)), "4 1");
        due("promise 7: others stay where they are", after(Gardens::walked, g -> g.turn(1, true)),
                all(g -> g.placeOf(0), g -> g.passedBy(0), g -> g.placeOf(2), g -> g.passedBy(2)), "1 3 2 0");
        due("promise 7: against the plan too", Gardens::walked, all(g -> g.planTurnsRight(5), g -> g.turn(1, false)),
                "true 3");
        due("promise 7: the 39th turn on the longest way", after(Gardens::chain, times(38, g -> g.turn(7, false))),
                all(g -> g.turn(7, false), g -> g.passedBy(7), g -> g.passedBy(6)), "0 39 0");
        due("promise 7: eight students on the longest way keep their forks apart",
                after(Gardens::chain, times(39, all(g -> g.turn(3, false), g -> g.turn(4, false)))),
                all(g -> g.goBack(3), g -> g.goBack(3), g -> g.goBack(4), g -> g.passedBy(5)), "1 2 1 0");
    }

    private static void promise7Refused() {
        refused("promise 7: to the left at an open exam", Gardens::walked, g -> g.turn(0, false), STATE);
        refused("promise 7: to the right at an open exam", Gardens::walked, g -> g.turn(0, true), STATE);
        refused("promise 7: at a graded exam", Gardens::graded, g -> g.turn(0, true), STATE);
        refused("promise 7: at an exam where the student began", Gardens::walked, g -> g.turn(2, true), STATE);
        refused("promise 7: a 40th turn, at the end of the longest way",
                after(Gardens::chain, times(39, g -> g.turn(7, false))), g -> g.turn(7, false), STATE);
    }

    private static void promise8GoBack() {
        due("promise 8: to the fork passed last", Gardens::walked,
                all(g -> g.goBack(0), g -> g.placeOf(0), g -> g.passedBy(0)), "3 3 2");
        due("promise 8: one after the other, to the first", Gardens::walked,
                all(g -> g.goBack(0), g -> g.goBack(0), g -> g.goBack(0)), "3 5 6");
        due("promise 8: from a fork", after(Gardens::walked, g -> g.turn(1, false)), g -> g.goBack(1), 5);
        due("promise 8: from a graded exam", Gardens::graded, g -> g.goBack(0), 3);
        due("promise 8: then on another path, and back again", after(Gardens::walked, times(2, g -> g.goBack(0))),
                all(g -> g.turn(0, true), g -> g.goBack(0), g -> g.goBack(0)), "4 5 6");
        due("promise 8: after follow", after(Gardens::walked, g -> g.follow(1)),
                all(g -> g.goBack(1), g -> g.goBack(1)), "4 5");
        due("promise 8: others stay where they are", after(Gardens::ladderWalked, g -> g.goBack(0)),
                all(g -> g.placeOf(1), g -> g.passedBy(1), g -> g.placeOf(2), g -> g.passedBy(2)), "1 37 0 1");
        due("promise 8: 39 forks back, to the top", after(Gardens::chain, g -> g.follow(7)),
                all(times(38, g -> g.goBack(7)), g -> g.goBack(7), g -> g.passedBy(7)), "38 39 0");
    }

    private static void promise8Refused() {
        refused("promise 8: at the fork where the student began", Gardens::walked, g -> g.goBack(1), STATE);
        refused("promise 8: at the exam where the student began", Gardens::walked, g -> g.goBack(2), STATE);
        refused("promise 8: at the graded exam where the student began", Gardens::graded, g -> g.goBack(2), STATE);
        refused("promise 8: back again where the student began", after(Gardens::walked, times(3, g -> g.goBack(0))),
                g -> g.goBack(0), STATE);
        refused("promise 8: a 40th fork back", after(Gardens::chain, g -> g.follow(7), times(39, g -> g.goBack(7))),
                g -> g.goBack(7), STATE);
    }

    private static void promise9Follow() {
        due("promise 9: 0 at an open exam", Gardens::walked,
                all(g -> g.follow(0), g -> g.placeOf(0), g -> g.passedBy(0)), "0 1 3");
        due("promise 9: 0 at a graded exam", Gardens::graded, all(g -> g.follow(2), g -> g.placeOf(2)), "0 2");
        due("promise 9: 1 at a fork just above", Gardens.pair(1), all(g -> g.follow(0), g -> g.placeOf(0)), "1 0");
        due("promise 9: by the plan, to the right and to the left", Gardens::walked,
                all(g -> g.follow(1), g -> g.placeOf(1), g -> g.passedBy(1)), "2 2 2");
        due("promise 9: to the left at each fork where the risks are the same", Gardens::chain,
                all(g -> g.follow(0), g -> g.placeOf(0)), "39 0");
        due("promise 9: the forks passed ahead of it do not count", after(Gardens::walked, g -> g.turn(1, true)),
                all(g -> g.follow(1), g -> g.passedBy(1)), "1 2");
        due("promise 9: 0 when called again", after(Gardens::walked, g -> g.follow(1)), g -> g.follow(1), 0);
        due("promise 9: others stay where they are", after(Gardens::walked, g -> g.follow(1)),
                all(g -> g.placeOf(0), g -> g.passedBy(0), g -> g.passedBy(2)), "1 3 0");
        due("promise 9: by the grades of the moment", after(Gardens::walked, g -> g.grade(2, 0)),
                all(g -> g.follow(1), g -> g.placeOf(1)), "2 1");
        due("promise 9: all 8 students pass the most forks, 39",
                Gardens::chain, all(g -> g.follow(0), g -> g.follow(1), g -> g.follow(2), g -> g.follow(3),
                        g -> g.follow(4), g -> g.follow(5), g -> g.follow(6), g -> g.follow(7)),
                "39 39 39 39 39 39 39 39");
        Supplier<ExamGarden> followed = after(Gardens::chain, g -> g.follow(0), g -> g.follow(1), g -> g.follow(2));
        due("promise 9: each student's forks are remembered apart", followed,
                all(times(39, g -> g.goBack(1)), g -> g.goBack(0), g -> g.goBack(2), g -> g.passedBy(1)), "39 1 1 0");
    }
}
