/** Boundary cases of what would be: best firsts, how far, setting out (promises 15 to 17). */
final class WouldBeEdges extends Edges {
    WouldBeEdges(Check check, Sentences document) {
        super(check, document);
    }

    void run() {
        changesUntilHeIsFirst();
        mostIsLeft();
        likeOnes();
        farBySoMany();
        farUntilTheyCant();
        settingOutAnew();
        settingOutByNumbers();
        bestRows();
        bestNoneSuch();
        bestOutside();
        bestTooOften();
        farRefused();
        setOutRows();
        setOutNoneSuch();
        setOutRefused();
    }

    private void best(TrailBreakers x, int least, int changes, int... firsts) {
        due("best(0)", x.best(0), least);
        due("best(1)", x.best(1), changes);
        for (int s = 0; s < firsts.length; s++) due("best(" + (10 + s) + ")", x.best(10 + s), firsts[s]);
    }

    private void setOut(TrailBreakers x, int least, int... file) {
        due("setOut(0)", x.setOut(0), least);
        for (int place = 0; place < file.length; place++) {
            due("setOut(" + (10 + place) + ")", x.setOut(10 + place), file[place]);
        }
    }

    private void changesUntilHeIsFirst() {
        sentence(TERMS, "FIRSTS: for each STRETCH that is not TRODDEN who would be the first (CHANGES ahead of it, until he is).");
        TrailBreakers x = Check.on("9;0", WALKER, 8, WALKER, 8, WALKER, 8, WALKER, 8, WALKER, 20);
        best(x, 3, 4, 4);
        for (int left = 3; left >= 0; left--) {
            x.change();
            due("best(1), turned", x.best(1), left);
        }
        x.change();
        due("best(1), once round", x.best(1), 4);
        best(Check.on("333333;0", WALKER, 18), 0, 0, 0, 0, 0, 0, 0, 0);
        // He who was first just now needs no change to be so again: it is the other who needs one.
        best(Check.on("99;0", WALKER, 12, WALKER, 30), 2, 1, 1, 1);
    }

    private void mostIsLeft() {
        sentence(TERMS, "BEST: FIRSTS by which all of these can be TRODDEN, one behind the other, and the least that is LEFT of any WALKER in the end is most;");
        best(Check.on("9;0", WALKER, 9), 0, 0, 0);
        best(Check.on("9;0", WALKER, 8), NONE, NONE, NONE);
        best(Check.on("0;0", WALKER, 1), 1, 0, 0);
        best(Check.on("000000;0", WALKER, 99), 99, 0, 0, 0, 0, 0, 0, 0);
        best(Check.on("999999;0", WALKER, 54), 0, 0, 0, 0, 0, 0, 0, 0);
        best(Check.on("999999;0", WALKER, 53), NONE, NONE, NONE, NONE, NONE, NONE, NONE, NONE);
        best(Check.on("99;0", WALKER, 14, WALKER, 14), 0, 1, 0, 1);
        best(Check.on("99;0", WALKER, 14, WALKER, 13), NONE, NONE, NONE, NONE);
        // The weakest of all counts, be he the last of the file.
        best(Check.on("8;0", WALKER, 20, WALKER, 20, WALKER, 20, WALKER, 20, WALKER, 1), 0, 0, 0);
        TrailBreakers x = Check.on("48;0", WALKER, 20, WALKER, 20);
        x.tread();
        best(x, 10, 1, NONE, 1);
        x.tread();
        best(x, 8, 0, NONE, NONE);
    }

    private void likeOnes() {
        sentence(TERMS, "of like ones by fewest CHANGES together; of like ones the first by numbers (the next STRETCH ahead of those behind it).");
        TrailBreakers x = Check.on("444;0", WALKER, 20, WALKER, 20);
        best(x, 10, 1, 0, 0, 1);
        x.change();
        best(x, 10, 1, 1, 0, 0);
        // All are alike: none changes, whoever is the first.
        TrailBreakers flat = Check.on("000000;0", WALKER, 5, WALKER, 5, WALKER, 5);
        best(flat, 5, 0, 0, 0, 0, 0, 0, 0);
        flat.change();
        flat.change();
        best(flat, 5, 0, 2, 2, 2, 2, 2, 2);
        // 0 and 1 in turn leave most; 1, 0 would take one change more.
        best(Check.on("44;0", WALKER, 20, WALKER, 20), 14, 1, 0, 1);
    }

    private void farBySoMany() {
        sentence(TERMS, "FAR by so many STRETCHES at a time (1 to 6): the first of the FILE is first on so many, then there is a CHANGE, and so on:");
        // Only the second can be first on the last stretch.
        TrailBreakers x = Check.on("000009;0", WALKER, 5, WALKER, 9);
        int[] far = {6, 5, 6, 6, 6, 5};
        for (int by = 1; by <= 6; by++) due("far(" + by + ")", x.far(by), far[by - 1]);
        x.tread();
        // So many are counted from now on.
        int[] then = {4, 4, 5, 5, 4, 4};
        for (int by = 1; by <= 6; by++) due("far(" + by + "), one is trodden", x.far(by), then[by - 1]);
    }

    private void farUntilTheyCant() {
        sentence(TERMS, "how many STRETCHES are TRODDEN from now on, until they can't.");
        TrailBreakers x = Check.on("333333;0", WALKER, 17);
        for (int by = 1; by <= 6; by++) due("far(" + by + ") by 17", x.far(by), 5);
        x = Check.on("333333;0", WALKER, 18);
        for (int by = 1; by <= 6; by++) due("far(" + by + ") by 18", x.far(by), 6);
        x = Check.on("300000;0", WALKER, 2);
        for (int by = 1; by <= 6; by++) due("far(" + by + ") by 2", x.far(by), 0);
        x = Check.on("3;0", WALKER, 3);
        due("far(1) of one", x.far(1), 1);
        due("far(6) of one", x.far(6), 1);
        x.tread();
        due("far(1) of none", x.far(1), 0);
        due("far(6) of none", x.far(6), 0);
        x = Check.on("000000;0", WALKER, 1, WALKER, 1, WALKER, 1, WALKER, 1, WALKER, 1);
        x.tread();
        due("far(1), one is trodden", x.far(1), 5);
        due("nothing is done", x.count(3), 1);
        due("no minutes", x.count(4), 2);
    }

    private void settingOutAnew() {
        sentence(TERMS, "as if no STRETCH were TRODDEN (all with the DEPTH that they have now), all STRENGTH LEFT, a CHANGE behind each STRETCH:");
        TrailBreakers x = Check.on("99;0", WALKER, 14, WALKER, 15);
        setOut(x, 0, 0, 1);
        x.tread();
        x.change();
        x.tread();
        about(x, 2, 0, 1);
        setOut(x, 0, 0, 1);
        // With 13 for each the two could not: 9 and 5 are 14.
        setOut(Check.on("99;0", WALKER, 13, WALKER, 15), NONE, NONE, NONE);
        x = Check.on("50;9", WALKER, 20);
        x.tread();
        setOut(x, 15, 0);
        x.snow(9);
        setOut(x, 6, 0);
        x.sun();
        setOut(x, 15, 0);
    }

    private void settingOutByNumbers() {
        sentence(TERMS, "that by which all can be TRODDEN, and the least that is LEFT of any in the end is most: the first by numbers.");
        setOut(Check.on("0;0", WALKER, 9, WALKER, 9, WALKER, 9, WALKER, 9, WALKER, 9), 9, 0, 1, 2, 3, 4);
        TrailBreakers x = Check.on("0;0", WALKER, 9, WALKER, 9, WALKER, 9);
        x.change();
        setOut(x, 9, 0, 1, 2);
        setOut(Check.on("9;0", WALKER, 9, WALKER, 9, WALKER, 9, WALKER, 9, WALKER, 10), 1, 4, 0, 1, 2, 3);
        setOut(Check.on("9;0", WALKER, 1, WALKER, 2, WALKER, 3, WALKER, 5, WALKER, 9), 0, 4, 3, 2, 1, 0);
        setOut(Check.on("9;0", WALKER, 9), 0, 0);
    }

    private void bestRows() {
        sentence(15, "10 to 15 who is first on STRETCH 0 to 5 (NONE: there is none such, or it is TRODDEN);");
        for (int stretches = 1; stretches <= 6; stretches++) {
            TrailBreakers x = Check.on("000000".substring(0, stretches) + ";0", WALKER, 9);
            for (int s = 0; s < 6; s++) due("best(" + (10 + s) + ") of " + stretches, x.best(10 + s), s < stretches ? 0 : NONE);
        }
        TrailBreakers x = Check.on("000000;0", WALKER, 9);
        for (int trodden = 1; trodden <= 6; trodden++) {
            x.tread();
            due("best(" + (9 + trodden) + "), it is trodden", x.best(9 + trodden), NONE);
            if (trodden < 6) due("best(" + (10 + trodden) + "), it is not", x.best(10 + trodden), 0);
        }
        due("best(0), all are trodden", x.best(0), 9);
        due("best(1), all are trodden", x.best(1), 0);
    }

    private void bestNoneSuch() {
        sentence(15, "NONE: there are no such FIRSTS.");
        TrailBreakers x = Check.on("000009;0", WALKER, 8);
        best(x, NONE, NONE, NONE, NONE, NONE, NONE, NONE, NONE);
        x.tread();
        best(x, NONE, NONE, NONE, NONE, NONE, NONE, NONE, NONE);
        due("NONE is an answer: it was done", x.count(9), 16);
        TrailBreakers deeper = Check.on("48;0", WALKER, 13, WALKER, 13);
        best(deeper, 3, 1, 0, 1);
        deeper.snow(9);
        best(deeper, NONE, NONE, NONE, NONE);
        deeper.tread();
        best(deeper, NONE, NONE, NONE, NONE);
    }

    private void bestOutside() {
        sentence(15, "OUTSIDE;");
        TrailBreakers x = Check.on("5;0", WALKER, 9);
        TrailBreakers none = Check.on("5;0");
        for (int what : new int[] {LEAST, -1, 2, 3, 9, 16, 17, MOST}) {
            refused(x, OUTSIDE, "best(" + what + ")", () -> x.best(what));
            refused(none, OUTSIDE, "best(" + what + "), no walkers", () -> none.best(what));
        }
        due("refused ones were not done", x.count(9), 0);
    }

    private void bestTooOften() {
        sentence(15, "STATE: there are no WALKERS, or best() was done 20 times.");
        TrailBreakers none = Check.on("5;0");
        refused(none, STATE, "best(0), no walkers", () -> none.best(0));
        refused(none, STATE, "best(15), no walkers", () -> none.best(15));
        TrailBreakers x = Check.on("5;0", WALKER, 9);
        for (int n = 1; n <= 20; n++) {
            due("best(0), the " + n + "th", x.best(0), 4);
            due("count(9)", x.count(9), n);
        }
        refused(x, STATE, "best(0), the 21st", () -> x.best(0));
        refused(x, STATE, "best(1), the 21st", () -> x.best(1));
        refused(x, STATE, "best(15), the 21st", () -> x.best(15));
        refused(x, OUTSIDE, "best(2), the 21st", () -> x.best(2));
        due("count(9)", x.count(9), 20);
        due("fits() is another matter", x.fits(), 1);
        Check.write(x, "5;0");
        x.slope();
        x.walker(WALKER, 9);
        refused(x, STATE, "best(0), another slope", () -> x.best(0));
    }

    private void farRefused() {
        sentence(16, "OUTSIDE: by (1 to 6);");
        TrailBreakers x = Check.on("5;0", WALKER, 9);
        TrailBreakers none = Check.on("5;0");
        for (int by : new int[] {LEAST, -1, 0, 7, 8, MOST}) {
            refused(x, OUTSIDE, "far(" + by + ")", () -> x.far(by));
            refused(none, OUTSIDE, "far(" + by + "), no walkers", () -> none.far(by));
        }
        due("far(1)", x.far(1), 1);
        due("far(6)", x.far(6), 1);
        sentence(16, "STATE: there are no WALKERS.");
        refused(none, STATE, "far(1)", () -> none.far(1));
        refused(none, STATE, "far(6)", () -> none.far(6));
    }

    private void setOutRows() {
        sentence(17, "10 to 14 the so-manieth of the FILE (NONE);");
        for (int walkers = 1; walkers <= 5; walkers++) {
            TrailBreakers x = Check.on("0;0");
            for (int w = 0; w < walkers; w++) x.walker(WALKER, 9);
            for (int p = 0; p < 5; p++) due("setOut(" + (10 + p) + ") of " + walkers, x.setOut(10 + p), p < walkers ? p : NONE);
        }
    }

    private void setOutNoneSuch() {
        sentence(17, "NONE: there is none such.");
        setOut(Check.on("9;0", WALKER, 8), NONE, NONE, NONE, NONE, NONE, NONE);
        TrailBreakers x = Check.on("8;0", WALKER, 8, WALKER, 4);
        setOut(x, 0, 0, 1, NONE, NONE, NONE);
        x.snow(1);
        setOut(x, NONE, NONE, NONE, NONE, NONE, NONE);
    }

    private void setOutRefused() {
        sentence(17, "OUTSIDE;");
        TrailBreakers x = Check.on("5;0", WALKER, 9);
        TrailBreakers none = Check.on("5;0");
        for (int what : new int[] {LEAST, -1, 1, 2, 9, 15, 16, MOST}) {
            refused(x, OUTSIDE, "setOut(" + what + ")", () -> x.setOut(what));
            refused(none, OUTSIDE, "setOut(" + what + "), no walkers", () -> none.setOut(what));
        }
        sentence(17, "STATE: there are no WALKERS.");
        refused(none, STATE, "setOut(0)", () -> none.setOut(0));
        refused(none, STATE, "setOut(10)", () -> none.setOut(10));
        refused(none, STATE, "setOut(14)", () -> none.setOut(14));
    }
}
