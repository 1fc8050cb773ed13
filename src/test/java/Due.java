/** What the tests share: counts answers that are not as due, and types texts. */
final class Due {
    private static int wrong = 0;
    private static String about = "";

    private Due() {
    }

    static void about(String promise) {
        about = promise;
    }

    static void due(String call, long got, long want) {
        if (got != want) {
            wrong++;
            System.out.println(about + ": " + call + " answered " + got + ", due is " + want);
        }
    }

    static void typeAll(KneesLent x, String text) {
        for (int i = 0; i < text.length(); i++) {
            x.type(text.charAt(i));
        }
    }

    /** A new object that has read a text. */
    static KneesLent read(String text) {
        KneesLent x = new KneesLent();
        typeAll(x, text);
        int items = x.parish();
        if (items < 0) {
            due("parish() of " + text, items, 0);
        }
        return x;
    }

    static void end() {
        System.out.println(wrong == 0 ? "all answers are as due" : wrong + " answers are not as due");
        if (wrong != 0) {
            System.exit(1);
        }
    }
}
