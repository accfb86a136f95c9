/** Counts answers that are not as due, and tells them. */
final class Check {
    private int asked = 0;
    private int wrong = 0;

    void due(String call, long got, long want) {
        asked++;
        if (got != want) {
            wrong++;
            System.out.println(call + " answered " + got + ", due is " + want);
        }
    }

    void holds(String what, boolean so) {
        due(what, so ? 1 : 0, 1);
    }

    /** Ends the program with exit code 1 if an answer was wrong. */
    void end(String name) {
        System.out.println(name + ": " + asked + " answers, " + wrong + " not as due");
        if (wrong != 0 || asked == 0) System.exit(1);
    }

    /** A new object whose page has these letters. */
    static TrailBreakers page(String letters) {
        TrailBreakers x = new TrailBreakers();
        write(x, letters);
        return x;
    }

    static void write(TrailBreakers x, String letters) {
        for (int i = 0; i < letters.length(); i++) x.letter(letters.charAt(i));
    }

    /** A new object on a slope, with walkers by kind and strength. */
    static TrailBreakers on(String slope, int... kindsAndStrengths) {
        TrailBreakers x = page(slope);
        x.slope();
        for (int i = 0; i + 1 < kindsAndStrengths.length; i += 2) x.walker(kindsAndStrengths[i], kindsAndStrengths[i + 1]);
        return x;
    }
}
