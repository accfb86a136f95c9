/** Boundary cases of the slope: a new object, the page, what is a slope (promises 1 to 6). */
final class SlopeEdges extends Edges {
    SlopeEdges(Check check, Sentences document) {
        super(check, document);
    }

    void run() {
        whatIsASlope();
        signsBesideTheDigits();
        numberedFromZero();
        atFirst();
        newObject();
        letterCodes();
        letterTooMany();
        blank();
        faultBehindThoseAhead();
        faultIfThereIsNone();
        anotherSlopeIsGone();
        pageIsEmptyThen();
        noSlopeOnThePage();
        firstOnAStretch();
        stretchUnknown();
        stretchOutside();
    }

    private void readsAs(String page, int stretches) {
        TrailBreakers x = Check.page(page);
        due("fault() of " + page, x.fault(), page.length());
        due("slope() of " + page, x.slope(), stretches);
        due("count(0) of " + page, x.count(0), stretches);
        for (int s = 0; s < stretches; s++) due("depth " + s + " of " + page, x.stretch(s, 0), page.charAt(s) - '0');
        due("melt of " + page, x.count(1), page.charAt(stretches + 1) - '0');
    }

    private void isNone(String page) {
        TrailBreakers x = Check.page(page);
        refused(x, STATE, "slope() of " + page, x::slope);
    }

    private void whatIsASlope() {
        sentence(TERMS, "one to six digits, the DEPTH of each STRETCH (0 to 9; numbered from 0), \";\" and a digit MELT (0 to 9).");
        isNone(";3");
        readsAs("0;0", 1);
        readsAs("9;9", 1);
        readsAs("09;1", 2);
        readsAs("12345;8", 5);
        readsAs("909090;5", 6);
        readsAs("000000;0", 6);
        readsAs("999999;9", 6);
        isNone("9090909;5");
        isNone("90909090;5");
        isNone("");
        isNone("5");
        isNone("53");
        isNone("909090");
        isNone("5;");
        isNone("909090;");
        isNone("5;33");
        isNone("909090;33");
        isNone("5;3;");
        isNone("5;;3");
        isNone(";");
        isNone(";;3");
    }

    /** Codes 47 and 58 stand beside the digits 48 to 57, 58 and 60 beside the ';' 59. */
    private void signsBesideTheDigits() {
        for (char sign : new char[] {47, 58, 59}) {
            isNone(sign + "5;3");
            isNone("5" + sign + "5;3");
            isNone("55555" + sign + ";3");
            isNone("5;" + sign);
        }
        for (char sign : new char[] {48, 57, 58, 60}) isNone("5" + sign + "3");
    }

    private void numberedFromZero() {
        TrailBreakers x = Check.on("987654;3");
        depths(x, 9, 8, 7, 6, 5, 4);
        due("stretch(6, 0)", x.stretch(6, 0), UNKNOWN);
        due("stretch(-1, 0)", x.stretch(-1, 0), UNKNOWN);
    }

    private void atFirst() {
        sentence(TERMS, "At first there is none, none is trodden.");
        TrailBreakers x = new TrailBreakers();
        due("count(0)", x.count(0), 0);
        due("count(3)", x.count(3), 0);
        x = Check.on("555555;5");
        due("count(3) on a slope", x.count(3), 0);
        firsts(x, NONE, NONE, NONE, NONE, NONE, NONE);
    }

    private void newObject() {
        sentence(1, "No SLOPE.");
        TrailBreakers x = new TrailBreakers();
        for (int what = 0; what <= 10; what++) due("count(" + what + ")", x.count(what), 0);
        due("fault()", x.fault(), 0);
        due("blank()", x.blank(), 0);
        refused(x, STATE, "slope()", x::slope);
        refused(x, UNKNOWN, "stretch(0, 0)", () -> x.stretch(0, 0));
        refused(x, STATE, "walker(0, 1)", () -> x.walker(0, 1));
        refused(x, UNKNOWN, "about(0, 0)", () -> x.about(0, 0));
        refused(x, UNKNOWN, "as(0, 0)", () -> x.as(0, 0));
        refused(x, STATE, "tread()", x::tread);
        refused(x, STATE, "change()", x::change);
        refused(x, STATE, "rest()", x::rest);
        refused(x, STATE, "snow(0)", () -> x.snow(0));
        refused(x, STATE, "sun()", x::sun);
        refused(x, STATE, "best(0)", () -> x.best(0));
        refused(x, STATE, "far(1)", () -> x.far(1));
        refused(x, STATE, "setOut(0)", () -> x.setOut(0));
        refused(x, UNKNOWN, "tell(0, 0)", () -> x.tell(0, 0));
        refused(x, STATE, "fits()", x::fits);
        refused(x, UNKNOWN, "sure(0)", () -> x.sure(0));
        refused(x, STATE, "days(1, 0, 0)", () -> x.days(1, 0, 0));
        refused(x, STATE, "image()", x::image);
        refused(x, STATE, "restore()", x::restore);
    }

    private void letterCodes() {
        sentence(2, "OUTSIDE: code (1 to 126);");
        TrailBreakers x = new TrailBreakers();
        for (int code : new int[] {LEAST, -1, 0, 127, 128, 256 + '5', 65536 + '5', MOST}) {
            refused(x, OUTSIDE, "letter(" + code + ")", () -> x.letter(code));
        }
        due("letter(1)", x.letter(1), 1);
        due("letter(126)", x.letter(126), 2);
        due("the codes are kept", x.digest(), digestOf(1, 126, 0, 0, 0, 0, 0, 0, 0, 2, 0, 0, 0));
    }

    private void letterTooMany() {
        sentence(2, "FULL: above 10.");
        TrailBreakers x = new TrailBreakers();
        for (int n = 1; n <= 10; n++) due("letter(57), the " + n + "th", x.letter('9'), n);
        refused(x, FULL, "letter(57), the 11th", () -> x.letter('9'));
        refused(x, FULL, "letter(1), the 11th", () -> x.letter(1));
        refused(x, FULL, "letter(126), the 11th", () -> x.letter(126));
        refused(x, OUTSIDE, "letter(127), the 11th", () -> x.letter(127));
        refused(x, OUTSIDE, "letter(0), the 11th", () -> x.letter(0));
        x.blank();
        for (int n = 1; n <= 10; n++) due("letter(57), blank, the " + n + "th", x.letter('9'), n);
    }

    private void blank() {
        sentence(3, "THE PAGE is empty: how many letters it had.");
        TrailBreakers x = new TrailBreakers();
        due("blank() of a new one", x.blank(), 0);
        x.letter('5');
        due("blank() of one letter", x.blank(), 1);
        due("count(7)", x.count(7), 0);
        due("blank() of none", x.blank(), 0);
        Check.write(x, "5;34567890");
        due("blank() of ten", x.blank(), 10);
        due("fault()", x.fault(), 0);
        due("slope()", x.slope(), STATE);
        Check.write(x, "5;3");
        due("slope() of what comes behind", x.slope(), 1);
        due("blank() behind slope()", x.blank(), 0);
        due("the slope stays", x.count(0), 1);
    }

    private void faultAt(String page, int place) {
        due("fault() of " + page, Check.page(page).fault(), place);
    }

    private void faultBehindThoseAhead() {
        sentence(4, "The place (from 0) of the first letter of THE PAGE that no SLOPE has there, behind those ahead of it;");
        faultAt(";", 0);
        faultAt("a", 0);
        faultAt("/", 0);
        faultAt(":", 0);
        faultAt(";;", 0);
        faultAt("5:", 1);
        faultAt("5<", 1);
        faultAt("555555/", 6);
        faultAt("5555555", 6);
        faultAt("5555555;", 6);
        faultAt("5;;", 2);
        faultAt("5;/", 2);
        faultAt("5;:", 2);
        faultAt("5;33", 3);
        faultAt("5;3;", 3);
        faultAt("555555;;", 7);
        faultAt("555555;33", 8);
        faultAt("555555;3;", 8);
        faultAt("5a;a", 1);
        faultAt("0123456789", 6);
        faultAt("5;;;;;;;;;", 2);
        faultAt("555555;3" + (char) 126 + (char) 1, 8);
    }

    private void faultIfThereIsNone() {
        sentence(4, "how many letters it has, if there is none.");
        faultAt("", 0);
        faultAt("0", 1);
        faultAt("9", 1);
        faultAt("555555", 6);
        faultAt("5;", 2);
        faultAt("5;0", 3);
        faultAt("5;9", 3);
        faultAt("555555;", 7);
        faultAt("555555;9", 8);
        TrailBreakers x = Check.on("5;3");
        due("fault() behind slope()", x.fault(), 0);
    }

    private void anotherSlopeIsGone() {
        sentence(5, "THE PAGE is read as THE SLOPE (another one is gone, with WALKERS, MINUTES, the BOOK):");
        TrailBreakers x = Check.on("999999;9", WALKER, 99, PROUD, 99, LONG, 99, WALKER, 99, WALKER, 99);
        for (int w = 0; w < 5; w++) x.tell(w, 6);
        for (int s = 0; s < 6; s++) x.tread();
        x.change();
        Check.write(x, "999999;9");
        due("slope(), one like it", x.slope(), 6);
        depths(x, 9, 9, 9, 9, 9, 9);
        firsts(x, NONE, NONE, NONE, NONE, NONE, NONE);
        for (int what = 2; what <= 6; what++) due("count(" + what + ")", x.count(what), 0);
        due("about(0, 0)", x.about(0, 0), UNKNOWN);
        for (int w = 0; w < 5; w++) due("walker(0, 1)", x.walker(WALKER, 1), w);
        about(x, 0, WALKER, WALKER, WALKER, WALKER, WALKER);
        about(x, 2, 1, 1, 1, 1, 1);
        about(x, 3, 0, 1, 2, 3, 4);
        about(x, 4, 0, 0, 0, 0, 0);
        about(x, 6, NONE, NONE, NONE, NONE, NONE);
        Check.write(x, "0;0");
        due("slope(), a shorter one", x.slope(), 1);
        due("count(1)", x.count(1), 0);
        due("the longer one is gone", x.stretch(1, 0), UNKNOWN);
    }

    private void pageIsEmptyThen() {
        sentence(5, "THE PAGE is empty then.");
        TrailBreakers x = Check.page("555555;5");
        due("slope()", x.slope(), 6);
        due("count(7)", x.count(7), 0);
        due("fault()", x.fault(), 0);
        refused(x, STATE, "slope() again", x::slope);
        for (int n = 1; n <= 10; n++) due("letter(53), the " + n + "th", x.letter('5'), n);
    }

    private void noSlopeOnThePage() {
        sentence(5, "STATE: it is none.");
        TrailBreakers x = Check.on("59;3", WALKER, 30, PROUD, 20);
        x.tell(0, 1);
        x.tread();
        x.image();
        refused(x, STATE, "slope() of none", x::slope);
        Check.write(x, "5;");
        refused(x, STATE, "slope() of 5;", x::slope);
        due("the image stays", x.restore(), 1);
        due("the page stays", x.count(7), 2);
        due("none was read", x.count(8), 1);
        x.letter('0');
        due("slope() of 5;0", x.slope(), 1);
        due("one was read", x.count(8), 2);
    }

    private void firstOnAStretch() {
        sentence(6, "1 who was the first on it (NONE: it is not TRODDEN).");
        TrailBreakers x = Check.on("000000;0", WALKER, 1, WALKER, 1, WALKER, 1, WALKER, 1, WALKER, 1);
        firsts(x, NONE, NONE, NONE, NONE, NONE, NONE);
        for (int s = 0; s < 6; s++) {
            due("tread()", x.tread(), s + 1);
            due("stretch(" + s + ", 1)", x.stretch(s, 1), s % 5);
            if (s < 5) due("stretch(" + (s + 1) + ", 1)", x.stretch(s + 1, 1), NONE);
            x.change();
        }
        firsts(x, 0, 1, 2, 3, 4, 0);
    }

    private void stretchUnknown() {
        sentence(6, "UNKNOWN;");
        for (int stretches = 1; stretches <= 6; stretches++) {
            TrailBreakers x = Check.on("777777".substring(0, stretches) + ";0");
            int last = stretches - 1;
            due("stretch(" + last + ", 0) of " + stretches, x.stretch(last, 0), 7);
            for (int s : new int[] {LEAST, -1, stretches, stretches + 1, MOST}) {
                refused(x, UNKNOWN, "stretch(" + s + ", 0) of " + stretches, () -> x.stretch(s, 0));
                refused(x, UNKNOWN, "stretch(" + s + ", 2) of " + stretches, () -> x.stretch(s, 2));
            }
        }
    }

    private void stretchOutside() {
        sentence(6, "OUTSIDE.");
        TrailBreakers x = Check.on("7;0");
        for (int what : new int[] {LEAST, -1, 2, 3, MOST}) {
            refused(x, OUTSIDE, "stretch(0, " + what + ")", () -> x.stretch(0, what));
        }
    }
}
