/** What the tests share: how a text is written, and how answers are compared. */
final class Due {
    private int wrong;
    private int compared;

    void is(String call, long got, long want) {
        compared++;
        if (got != want) {
            wrong++;
            if (wrong <= 50) {
                System.out.println(call + " answered " + got + ", due is " + want);
            }
        }
    }

    void end() {
        System.out.println(wrong == 0 ? compared + " answers are as due" : wrong + " answers are not as due");
        if (wrong != 0) {
            System.exit(1);
        }
    }

    /** Writes the text behind what is there, eight bytes a call. */
    static void write(PassTheSalt x, String text) {
        for (int k = 0; k < text.length(); k += 8) {
            String part = text.substring(k, Math.min(k + 8, text.length()));
            long v = 0;
            for (int p = 0; p < part.length(); p++) {
                v = v << 8 | part.charAt(p);
            }
            x.write(part.length(), v);
        }
    }

    static PassTheSalt told(String text) {
        PassTheSalt x = new PassTheSalt();
        write(x, text);
        return x;
    }

    static PassTheSalt laid(String text) {
        PassTheSalt x = told(text);
        x.lay();
        return x;
    }
}
