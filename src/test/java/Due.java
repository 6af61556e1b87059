/** Counts the answers that are not as due, and tells each of them. */
final class Due {
    private final String test;
    private int asked = 0;
    private int wrong = 0;

    Due(String test) {
        this.test = test;
    }

    void is(String call, long got, long want) {
        asked++;
        if (got != want) {
            wrong++;
            System.out.println(test + ": " + call + " answered " + got + ", due is " + want);
        }
    }

    boolean isWrong() {
        return wrong != 0;
    }

    void end() {
        System.out.println(test + ": " + asked + " answers, " + wrong + " not as due");
        if (asked == 0 || wrong != 0) {
            System.exit(1);
        }
    }

    /** An object that a text has made. */
    static LabelsOfLines of(String text) {
        LabelsOfLines x = new LabelsOfLines();
        int told = tell(x, text);
        if (told < 0) {
            throw new IllegalArgumentException(text + " is no text: " + told);
        }
        return x;
    }

    static int tell(LabelsOfLines x, String text) {
        for (int i = 0; i < text.length(); i++) {
            x.letter(text.charAt(i));
        }
        return x.text();
    }

    static String written(LabelsOfLines x) {
        StringBuilder all = new StringBuilder();
        int many = x.written(-1);
        for (int i = 0; i < many; i++) {
            all.append((char) x.written(i));
        }
        return all.toString();
    }

    static void fill(LabelsOfLines x, int list, int... numbers) {
        x.list(list, numbers.length);
        for (int i = 0; i < numbers.length; i++) {
            x.put(list, i, numbers[i]);
        }
    }

    /** Whether two texts are one: 1, 0. */
    static int same(String one, String other) {
        return one.equals(other) ? 1 : 0;
    }
}
