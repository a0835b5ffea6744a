/** What the tests share: how a text is written, and how answers are compared. */
final class Due {
    private int wrong;
    private int compared;
    private String sentence = "";

    /** Which sentence of the document the answers from here on are for. */
    void of(String sentence) {
        this.sentence = "[" + sentence + "] ";
    }

    void is(String call, long got, long want) {
        compared++;
        if (got != want) {
            tell(call + " answered " + got + ", due is " + want);
        }
    }

    void same(String what, String got, String want) {
        compared++;
        if (!got.equals(want)) {
            tell(what + " is " + got + ", due is " + want);
        }
    }

    private void tell(String fault) {
        wrong++;
        if (wrong <= 50) {
            System.out.println(sentence + fault);
        }
    }

    /** How dishes lie, a sign a guest: - for none. */
    void lies(String where, PassTheSalt x, String want) {
        same(where + ", how dishes lie", lieOf(x), want);
    }

    static String lieOf(PassTheSalt x) {
        StringBuilder lie = new StringBuilder();
        for (int i = 0; i < x.count(0); i++) {
            int dish = x.guest(i, 1);
            lie.append(dish == PassTheSalt.NONE ? "-" : "" + dish);
        }
        return lie.toString();
    }

    void end() {
        System.out.println(wrong == 0 ? compared + " answers are as due" : wrong + " answers are not as due");
        if (wrong != 0) {
            System.exit(1);
        }
    }

    /** Writes the text behind what is there, eight bytes a call. */
    static void write(PassTheSalt x, String text) {
        for (int k = 0; k < text.length(); k += 8) {
            String part = text.substring(k, Math.min(k + 8, text.length()));
            long v = 0;
            for (int p = 0; p < part.length(); p++) {
                v = v << 8 | part.charAt(p);
            }
            x.write(part.length(), v);
        }
    }

    static PassTheSalt told(String text) {
        PassTheSalt x = new PassTheSalt();
        write(x, text);
        return x;
    }

    static PassTheSalt laid(String text) {
        PassTheSalt x = told(text);
        x.lay();
        return x;
    }
}
