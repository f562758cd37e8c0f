/** A call of a garden, with what it answers. */
interface Call {
    Object of(ExamGarden garden);

    /** The answer as a text; what the call throws instead, if it throws. */
    default String told(ExamGarden garden) {
        try {
            return String.valueOf(of(garden));
        } catch (RuntimeException thrown) {
            return "throws " + thrown.getClass().getName();
        }
    }
}
