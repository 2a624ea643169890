/** Counts answers that are not as due, and puts bytes and texts on a tape. */
final class Due {
    private int wrong;
    private int right;
    private String sentence = "";

    /** The document's sentence that the checks from here on are about: a fault is told with it. */
    void says(String sentence) {
        this.sentence = "\"" + sentence + "\": ";
    }

    void is(String call, long got, long want) {
        if (got == want) {
            right++;
        } else {
            wrong++;
            System.out.println(sentence + call + " answered " + got + ", due is " + want);
        }
    }

    void is(String call, boolean got, boolean want) {
        is(call, got ? 1 : 0, want ? 1 : 0);
    }

    /** Ends the test: with exit code 1 if an answer was wrong. */
    void end() {
        System.out.println(right + " passed, " + wrong + " failed");
        System.exit(wrong == 0 ? 0 : 1);
    }

    /** The bytes, and up to the next twenty 255, which nothing but a number may have. */
    static void feed(BellRibbons x, int... bytes) {
        for (int k = 0; k < bytes.length; k += 20) {
            int[] five = new int[5];
            for (int m = 0; m < 20; m++) {
                five[m / 4] = five[m / 4] << 8 | (k + m < bytes.length ? bytes[k + m] & 255 : 255);
            }
            x.feed(five[0], five[1], five[2], five[3], five[4]);
        }
    }

    static int law(BellRibbons x, String text) {
        int[] bytes = new int[text.length()];
        for (int k = 0; k < bytes.length; k++) {
            bytes[k] = text.charAt(k);
        }
        feed(x, bytes);
        return x.law(bytes.length);
    }

    static void feedNumbers(BellRibbons x, int... numbers) {
        int[] bytes = new int[4 * numbers.length];
        for (int k = 0; k < bytes.length; k++) {
            bytes[k] = numbers[k / 4] >>> 24 - 8 * (k % 4);
        }
        feed(x, bytes);
    }
}
