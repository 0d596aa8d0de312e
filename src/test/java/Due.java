/** Counts the answers that a test looked at, and prints those that are not as due. */
final class Due {
    private final String name;
    private String sentence = "";
    private int looked = 0;
    private int wrong = 0;

    Due(String name) {
        this.name = name;
    }

    /** The words of the document that the answers from here on are of: printed with each one that is not as due. */
    void sentence(String words) {
        sentence = words;
    }

    void is(String what, long got, long want) {
        looked++;
        if (got != want) tell(what + " answered " + got + ", due is " + want);
    }

    void holds(String what, boolean is) {
        is(what, is ? 1 : 0, 1);
    }

    /** All that the calls which change nothing tell of a clock: two clocks that agree in it are alike. */
    static String picture(BoardClock x) {
        StringBuilder all = new StringBuilder();
        for (int i = 0; i <= 17; i++) all.append(x.told(i)).append(' ');
        for (int i = 0; i <= 2; i++) all.append(x.time(i)).append(' ');
        for (int i = 0; i <= 3; i++) all.append(x.calendar(i)).append(' ');
        for (int s = 0; s <= 8; s++) all.append(x.span(s, 0)).append(' ').append(x.span(s, 1)).append(' ');
        for (int a = 0; a <= 5; a++) for (int i = 0; i <= 4; i++) all.append(x.alarmAt(a, i)).append(' ');
        return all.toString();
    }

    /** The picture without told(17), which goes down as deeds are undone. */
    static String pictureButUndoable(BoardClock x) {
        String[] parts = picture(x).split(" ");
        parts[17] = "";
        return String.join(" ", parts);
    }

    void alike(String what, String got, String want) {
        looked++;
        if (!got.equals(want)) tell(what + "\n  is  " + got + "\n  due " + want);
    }

    private void tell(String fault) {
        wrong++;
        System.out.println(name + ": " + (sentence.isEmpty() ? "" : "[" + sentence + "] ") + fault);
    }

    void end() {
        System.out.println(name + ": " + looked + " answers looked at, " + wrong + " not as due");
        if (wrong != 0 || looked == 0) System.exit(1);
    }
}
