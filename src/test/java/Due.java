/** Tells every call whose answer is not the one that is due. */
final class Due {
    /** Numbers that no call takes; some of them times 2, 4 or 8 wrap around to a number that is taken. */
    static final int[] FAR = {Integer.MIN_VALUE, Integer.MIN_VALUE + 1, -(1 << 30), -1, 1 << 29, 1 << 30,
        Integer.MAX_VALUE - 1, Integer.MAX_VALUE};

    private int asked;
    private int wrong;
    private String sentence = "";

    /** The sentence of the document that the calls from here on are due by. */
    void says(String words) {
        sentence = "\"" + words + "\" ";
    }

    void is(String call, int got, int want) {
        asked++;
        if (got != want) {
            wrong++;
            System.out.println(sentence + call + " answered " + got + ", due is " + want);
        }
    }

    void holds(String what, boolean so) {
        is(what, so ? 1 : 0, 1);
    }

    boolean isWrong() {
        return wrong > 0;
    }

    void end() {
        System.out.println(asked + " asked, " + wrong + " wrong");
        if (wrong > 0 || asked == 0) {
            System.exit(1);
        }
    }
}
