/** Boundary cases of the book, and of days by a seed (promises 18 to 21). */
final class BookEdges extends Edges {
    /** How many ways there are to choose 0 to 6 of six. */
    private static final int[] OF_SIX = {1, 6, 15, 20, 15, 6, 1};

    BookEdges(Check check, Sentences document) {
        super(check, document);
    }

    void run() {
        toldZeroToSix();
        toldOfOthersNothing();
        onlyWhatIsNotTrodden();
        fitsOnlyIfTheyCan();
        sureInAllOfThese();
        eachDraw();
        snowByADrawOfThree();
        treadIfTheyCan();
        seedsWrapAround();
        tellNone();
        tellRefused();
        fitsTooOften();
        sureNone();
        sureUnknown();
        sureTooOften();
        daysOutside();
        daysNoWalkers();
    }

    private void toldZeroToSix() {
        sentence(TERMS, "as told (0 to 6; of others nothing).");
        TrailBreakers x = Check.on("000000;0", WALKER, 1, WALKER, 1);
        for (int often = 0; often <= 6; often++) {
            due("tell(0, " + often + ")", x.tell(0, often), often - 1);
            due("fits() of " + often, x.fits(), OF_SIX[often]);
        }
        for (int often = 0; often <= 6; often++) {
            x.tell(0, often);
            x.tell(1, 6 - often);
            due("fits() of " + often + " and " + (6 - often), x.fits(), OF_SIX[often]);
            x.tell(1, often < 6 ? 5 - often : 1);
            due("fits(), together not six", x.fits(), 0);
        }
        refused(x, OUTSIDE, "tell(0, 7)", () -> x.tell(0, 7));
    }

    private void toldOfOthersNothing() {
        TrailBreakers x = Check.on("000000;0", WALKER, 1, WALKER, 1, WALKER, 1);
        due("fits(), nothing told", x.fits(), 729);
        for (int often = 0; often <= 6; often++) {
            x.tell(1, often);
            due("fits() of " + often + " of one of three", x.fits(), OF_SIX[often] * (1 << (6 - often)));
        }
        x.tell(1, 2);
        x.tell(2, 2);
        due("fits(), two and two of six", x.fits(), 90);
        TrailBreakers five = Check.on("000000;0", WALKER, 1, WALKER, 1, WALKER, 1, WALKER, 1, WALKER, 1);
        due("fits() of five, nothing told", five.fits(), 15625);
        for (int w = 0; w < 5; w++) five.tell(w, 0);
        due("fits() of five, none ever", five.fits(), 0);
        five.tell(4, 6);
        due("fits() of five, one always", five.fits(), 1);
    }

    private void onlyWhatIsNotTrodden() {
        sentence(TERMS, "A BOOK: of WALKERS, on how many of the STRETCHES that are not TRODDEN each would be the first,");
        TrailBreakers x = Check.on("000000;0", WALKER, 1, WALKER, 1);
        x.tell(0, 6);
        due("fits()", x.fits(), 1);
        x.tread();
        due("fits(), one is trodden", x.fits(), 0);
        x.tell(0, 5);
        due("fits() of five", x.fits(), 1);
        for (int s = 1; s < 6; s++) x.tread();
        due("fits(), all are trodden", x.fits(), 0);
        x.tell(0, 0);
        due("fits(), all are trodden, told 0", x.fits(), 1);
        x.tell(0, NONE);
        due("fits(), all are trodden, nothing told", x.fits(), 1);
        x.tell(1, 1);
        due("fits(), all are trodden, told 1 of the other", x.fits(), 0);
    }

    private void fitsOnlyIfTheyCan() {
        sentence(TERMS, "FITS: how many FIRSTS by which all can be TRODDEN are so;");
        due("just as much", Check.on("99;0", WALKER, 14, WALKER, 14).fits(), 2);
        due("one less", Check.on("99;0", WALKER, 14, WALKER, 13).fits(), 0);
        due("each can twice", Check.on("99;0", WALKER, 18, WALKER, 18).fits(), 4);
        due("one can twice", Check.on("99;0", WALKER, 18, WALKER, 17).fits(), 3);
        due("the last can't", Check.on("9;0", WALKER, 99, WALKER, 4).fits(), 0);
        due("the last just can", Check.on("9;0", WALKER, 99, WALKER, 5).fits(), 1);
    }

    private void sureInAllOfThese() {
        sentence(TERMS, "SURE: who is the first on a STRETCH in all of these.");
        TrailBreakers one = Check.on("000000;0", WALKER, 1);
        for (int s = 0; s < 6; s++) due("sure(" + s + ") of one", one.sure(s), 0);
        TrailBreakers x = Check.on("09;0", WALKER, 8, WALKER, 8, WALKER, 8, WALKER, 8, WALKER, 20);
        due("sure(0)", x.sure(0), NONE);
        due("sure(1), he alone can", x.sure(1), 4);
        x.tell(3, 1);
        due("sure(0), one is told", x.sure(0), 3);
        due("sure(1), one is told", x.sure(1), 4);
        x.tell(4, 0);
        due("sure(1), who can is told 0", x.sure(1), NONE);
    }

    private void days(TrailBreakers x, int times, int seed, int trodden, int left, int then) {
        String call = "days(" + times + ", " + seed + ", ";
        due(call + "0)", x.days(times, seed, 0), trodden);
        due(call + "1)", x.days(times, seed, 1), left);
        due(call + "2)", x.days(times, seed, 2), then);
    }

    private void eachDraw() {
        sentence(TERMS, "so many times a DRAW of 5: 0, 1: the next STRETCH is TRODDEN, if they can; 2: a CHANGE; 3: a REST; 4: SNOW by a DRAW of 3.");
        TrailBreakers x = Check.on("80;0", WALKER, 20, STRONG, 20);
        days(x, 1, 13, 1, 12 + 16, 1460808642);
        days(x, 1, 6, 1, 12 + 16, 178652871);
        due("2: a change, then 1", x.days(2, 4, 1), 16 + 16);
        due("two changes, then 0", x.days(3, 3, 1), 12 + 16);
        x.tread();
        due("3: a rest", x.days(1, 1, 1), 13 + 17);
        due("three rests", x.days(3, 1, 1), 15 + 19);
        due("strength at most", Check.on("9;0", WALKER, 9).days(3, 1, 1), 9);
        due("nothing is done", x.count(5), 12 + 16);
        due("no minutes of it", x.count(4), 4);
    }

    private void snowByADrawOfThree() {
        sentence(TERMS, "4: SNOW by a DRAW of 3.");
        TrailBreakers x = Check.on("40;0", WALKER, 20);
        days(x, 1, 179, 0, 20, 1804471785);
        days(x, 1, 126, 0, 20, 535041580);
        days(x, 1, 58, 0, 20, 1823674952);
        days(x, 2, 179, 1, 16, 2129599086);
        days(x, 2, 126, 1, 15, 1692862709);
        days(x, 2, 58, 1, 14, 1132521697);
        days(x, 2, 134, 1, 16, 1758785181);
        days(x, 2, 39, 1, 15, 975955826);
        days(x, 2, 112, 1, 14, 1577498383);
        due("no snow fell", x.stretch(0, 0), 4);
        due("9 at most", Check.on("8;0", WALKER, 9).days(2, 58, 0), 1);
        due("all that is left", Check.on("8;0", WALKER, 9).days(2, 58, 1), 0);
    }

    private void treadIfTheyCan() {
        sentence(TERMS, "0, 1: the next STRETCH is TRODDEN, if they can;");
        days(Check.on("9;0", WALKER, 9), 1, 13, 1, 0, 1460808642);
        days(Check.on("9;0", WALKER, 8), 1, 13, 0, 8, 1460808642);
        days(Check.on("9;0", WALKER, 8), 1, 6, 0, 8, 178652871);
        TrailBreakers over = Check.on("0;0", WALKER, 1);
        over.tread();
        days(over, 1, 13, 1, 1, 1460808642);
        days(over, 60, 0, 1, 1, 807982316);
        days(Check.on("000000;0", WALKER, 99), 60, 0, 6, 99, 807982316);
    }

    private void seedsWrapAround() {
        sentence(TERMS, "1103515245 times it and 12345, its rest by 2 to the 31; then that by 65536 (rounded down), its rest.");
        TrailBreakers x = Check.on("0;0", WALKER, 1);
        due("days(1, 0, 2)", x.days(1, 0, 2), 12345);
        due("days(1, 1, 2)", x.days(1, 1, 2), 1103527590);
        due("days(1, MOST, 2)", x.days(1, MOST, 2), 288979989);
        due("days(1, MOST - 1, 2)", x.days(1, MOST - 1, 2), 1318511020);
        due("days(60, MOST, 2)", x.days(60, MOST, 2), 702671799);
        due("days(59, 0, 2)", x.days(59, 0, 2), 1049906079);
        due("days(60, 0, 2)", x.days(60, 0, 2), 807982316);
    }

    private void tellNone() {
        sentence(18, "It is told in the BOOK of a WALKER (NONE: nothing any more): what was told (NONE).");
        TrailBreakers x = Check.on("5;0", WALKER, 9, WALKER, 9);
        due("tell(1, -1), nothing was", x.tell(1, NONE), NONE);
        due("tell(1, 0)", x.tell(1, 0), NONE);
        due("count(6)", x.count(6), 1);
        due("tell(1, 6)", x.tell(1, 6), 0);
        due("count(6)", x.count(6), 1);
        due("tell(1, -1)", x.tell(1, NONE), 6);
        due("count(6)", x.count(6), 0);
        due("tell(1, -1) again", x.tell(1, NONE), NONE);
        about(x, 6, NONE, NONE);
    }

    private void tellRefused() {
        sentence(18, "UNKNOWN; OUTSIDE: often (NONE, 0 to 6).");
        TrailBreakers x = Check.on("5;0", WALKER, 9, WALKER, 9);
        x.tell(0, 3);
        for (int w : new int[] {LEAST, -1, 2, 5, MOST}) {
            refused(x, UNKNOWN, "tell(" + w + ", 0)", () -> x.tell(w, 0));
            refused(x, UNKNOWN, "tell(" + w + ", 7)", () -> x.tell(w, 7));
        }
        for (int often : new int[] {LEAST, -2, 7, 8, MOST}) {
            refused(x, OUTSIDE, "tell(0, " + often + ")", () -> x.tell(0, often));
            refused(x, OUTSIDE, "tell(1, " + often + ")", () -> x.tell(1, often));
        }
        about(x, 6, 3, NONE);
    }

    private void fitsTooOften() {
        sentence(19, "STATE: there are no WALKERS, or fits(), sure() were done 40 times together.");
        TrailBreakers none = Check.on("5;0");
        refused(none, STATE, "fits(), no walkers", none::fits);
        TrailBreakers x = Check.on("5;0", WALKER, 9);
        for (int n = 1; n <= 40; n++) {
            due("fits(), the " + n + "th", x.fits(), 1);
            due("count(10)", x.count(10), n);
        }
        refused(x, STATE, "fits(), the 41st", x::fits);
        refused(x, STATE, "sure(0), the 41st", () -> x.sure(0));
        due("best() is another matter", x.best(0), 4);
        TrailBreakers both = Check.on("5;0", WALKER, 9);
        for (int n = 1; n <= 20; n++) {
            due("fits(), " + n, both.fits(), 1);
            due("sure(0), " + n, both.sure(0), 0);
        }
        refused(both, STATE, "fits() behind 20 of each", both::fits);
        due("count(10)", both.count(10), 40);
    }

    private void sureNone() {
        sentence(20, "NONE: it is not, or there are no such FIRSTS.");
        TrailBreakers x = Check.on("00;0", WALKER, 9, WALKER, 9);
        due("sure(0), it is not", x.sure(0), NONE);
        due("sure(1), it is not", x.sure(1), NONE);
        x.tell(0, 3);
        due("sure(0), no such", x.sure(0), NONE);
        due("sure(0), they can't", Check.on("9;0", WALKER, 8).sure(0), NONE);
        due("both were done", x.count(10), 3);
        // Of three, the one who is first and last among the firsts found is not so in all.
        TrailBreakers three = Check.on("00;0", WALKER, 9, WALKER, 9, WALKER, 9);
        three.tell(1, 1);
        three.tell(2, 1);
        due("sure(0), 1 or 2", three.sure(0), NONE);
        three.tell(1, NONE);
        three.tell(2, NONE);
        three.tell(0, 0);
        due("sure(1), 1, 2, 1, 2", three.sure(1), NONE);
    }

    private void sureUnknown() {
        sentence(20, "UNKNOWN: stretch, or it is TRODDEN;");
        TrailBreakers x = Check.on("000;0", WALKER, 9);
        for (int s : new int[] {LEAST, -1, 3, 6, MOST}) refused(x, UNKNOWN, "sure(" + s + ")", () -> x.sure(s));
        due("sure(0)", x.sure(0), 0);
        due("sure(2)", x.sure(2), 0);
        for (int trodden = 1; trodden <= 3; trodden++) {
            x.tread();
            int s = trodden - 1;
            refused(x, UNKNOWN, "sure(" + s + "), it is trodden", () -> x.sure(s));
            if (trodden < 3) due("sure(" + trodden + "), it is not", x.sure(trodden), 0);
        }
        refused(x, UNKNOWN, "sure(3), all are trodden", () -> x.sure(3));
    }

    private void sureTooOften() {
        sentence(20, "STATE, as fits().");
        TrailBreakers none = Check.on("5;0");
        refused(none, STATE, "sure(0), no walkers", () -> none.sure(0));
        refused(none, UNKNOWN, "sure(1), no walkers", () -> none.sure(1));
        TrailBreakers x = Check.on("05;0", WALKER, 9);
        x.tread();
        for (int n = 1; n <= 40; n++) due("sure(1), the " + n + "th", x.sure(1), 0);
        refused(x, STATE, "sure(1), the 41st", () -> x.sure(1));
        refused(x, STATE, "fits(), the 41st", x::fits);
        refused(x, UNKNOWN, "sure(0), the 41st, it is trodden", () -> x.sure(0));
        refused(x, UNKNOWN, "sure(2), the 41st", () -> x.sure(2));
        due("count(10)", x.count(10), 40);
        Check.write(x, "5;0");
        x.slope();
        x.walker(WALKER, 9);
        refused(x, STATE, "sure(0), another slope", () -> x.sure(0));
    }

    private void daysOutside() {
        sentence(21, "OUTSIDE: times (1 to 60), seed (0 at least), what;");
        TrailBreakers x = Check.on("5;0", WALKER, 9);
        TrailBreakers none = Check.on("5;0");
        int[][] wrong = {
            {LEAST, 0, 0}, {-1, 0, 0}, {0, 0, 0}, {61, 0, 0}, {62, 0, 0}, {MOST, 0, 0},
            {1, LEAST, 0}, {1, -1, 0}, {60, -1, 2},
            {1, 0, LEAST}, {1, 0, -1}, {1, 0, 3}, {1, 0, 4}, {1, 0, MOST}};
        for (int[] w : wrong) {
            String call = "days(" + w[0] + ", " + w[1] + ", " + w[2] + ")";
            refused(x, OUTSIDE, call, () -> x.days(w[0], w[1], w[2]));
            refused(none, OUTSIDE, call + ", no walkers", () -> none.days(w[0], w[1], w[2]));
        }
        due("days(1, 0, 0)", x.days(1, 0, 0), 1);
        due("days(60, MOST, 0)", x.days(60, MOST, 0), 1);
    }

    private void daysNoWalkers() {
        sentence(21, "STATE: there are no WALKERS.");
        TrailBreakers none = Check.on("5;0");
        refused(none, STATE, "days(1, 0, 0)", () -> none.days(1, 0, 0));
        refused(none, STATE, "days(60, MOST, 2)", () -> none.days(60, MOST, 2));
    }
}
