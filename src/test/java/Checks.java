/** Compares answers with those that are due, prints each that differs, and counts them. */
final class Checks {
    private int wrong;
    private int asked;

    void due(String call, long got, long want) {
        asked++;
        if (got != want) {
            wrong++;
            System.out.println(call + " answered " + got + ", due is " + want);
        }
    }

    void holds(String what, boolean is) {
        asked++;
        if (!is) {
            wrong++;
            System.out.println("not so: " + what);
        }
    }

    boolean isWrong() {
        return wrong > 0;
    }

    void end(String name) {
        System.out.println(name + ": " + asked + " answers, " + wrong + " not as due");
        if (wrong > 0) {
            System.exit(1);
        }
    }

    static int type(ShadeVotes x, String text) {
        int length = 0;
        for (int i = 0; i < text.length(); i++) {
            length = x.type(text.charAt(i));
        }
        return length;
    }

    static int tell(ShadeVotes x, String text) {
        x.clear();
        type(x, text);
        return x.commune();
    }

    static ShadeVotes told(String text) {
        ShadeVotes x = new ShadeVotes();
        int items = tell(x, text);
        if (items < 0) {
            throw new IllegalArgumentException("a test's text is at fault: " + text + ": " + items);
        }
        return x;
    }
}
