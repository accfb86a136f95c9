/** Boundary cases of what is told of all: image, counts, digest, refusals, the last call (promises 22 to 25). */
final class AllEdges extends Edges {
    private static final int[] EXTREMES = {LEAST, -1, MOST};

    AllEdges(Check check, Sentences document) {
        super(check, document);
    }

    void run() {
        usedFor512Calls();
        imageKeeps();
        imageLeavesTheRest();
        refusalsChangeNothing();
        imageLatest();
        imageNoSlope();
        restoreNoneKept();
        countOutside();
        countHighest();
        digestWraps();
        digestOfEachState();
    }

    private void usedFor512Calls() {
        sentence(TERMS, "An object is used for at most 512 calls after it has been made;");
        TrailBreakers x = Check.on("1;0", WALKER, 99);
        for (int n = 6; n <= 510; n++) x.rest();
        due("count(4), the 511th call", x.count(4), 505 * 5);
        due("tread(), the 512th call", x.tread(), 1);
        TrailBreakers slopes = new TrailBreakers();
        for (int n = 1; n <= 127; n++) {
            Check.write(slopes, "5;0");
            slopes.slope();
        }
        due("count(8), the 509th call", slopes.count(8), 127);
    }

    private static TrailBreakers keptOn(String slope) {
        TrailBreakers x = Check.on(slope, WALKER, 30, PROUD, 30);
        x.tell(1, 2);
        x.change();
        x.tread();
        x.image();
        return x;
    }

    private void imageKeeps() {
        sentence(TERMS, "An IMAGE keeps how many WALKERS there are (those that come since are gone by restore()), what is LEFT, the FILE, DEPTHS, how many STRETCHES are TRODDEN, who was the first on each, MINUTES, the BOOK.");
        TrailBreakers x = keptOn("4466;2");
        long then = x.digest();
        x.walker(LONG, 9);
        x.walker(LONG, 9);
        x.walker(LONG, 9);
        refused(x, FULL, "walker(4, 9)", () -> x.walker(LONG, 9));
        for (int w = 0; w < 5; w++) x.tell(w, 6);
        x.snow(1);
        x.change();
        x.tread();
        x.rest();
        due("restore()", x.restore(), 1);
        due("digest()", x.digest(), then);
        due("count(2)", x.count(2), 2);
        due("about(2, 0)", x.about(2, 0), UNKNOWN);
        about(x, 2, 28, 26);
        about(x, 3, 1, 0);
        about(x, 6, NONE, 2);
        depths(x, 4, 4, 6, 6);
        firsts(x, 1, NONE, NONE, NONE);
        due("count(3)", x.count(3), 1);
        due("count(4)", x.count(4), 1 + 3);
        due("count(6)", x.count(6), 1);
        for (int n = 2; n < 5; n++) due("walker(0, 5)", x.walker(WALKER, 5), n);
        about(x, 0, WALKER, PROUD, WALKER, WALKER, WALKER);
        about(x, 1, 30, 30, 5, 5, 5);
        about(x, 3, 1, 0, 2, 3, 4);
        about(x, 6, NONE, 2, NONE, NONE, NONE);
        due("restore() again", x.restore(), 1);
        due("digest() again", x.digest(), then);
    }

    /** What an image is not told to keep stays as it is. */
    private void imageLeavesTheRest() {
        TrailBreakers x = keptOn("4466;2");
        x.best(0);
        x.fits();
        x.sure(1);
        Check.write(x, "5;");
        x.restore();
        due("count(7)", x.count(7), 2);
        due("count(8)", x.count(8), 1);
        due("count(9)", x.count(9), 1);
        due("count(10)", x.count(10), 2);
    }

    private void refusalsChangeNothing() {
        sentence(TERMS, "Refusals, of several the first as told by each call: UNKNOWN (a number names nothing), OUTSIDE (it is not as told), STATE (as told), FULL; they change nothing.");
        TrailBreakers fresh = Check.page("5;");
        TrailBreakers none = Check.on("59;3");
        TrailBreakers x = Check.on("59;3", WALKER, 30, LONG, 20, SHORT, 20, PROUD, 20, STRONG, 20);
        x.tell(2, 1);
        x.tread();
        for (int odd : EXTREMES) {
            allRefused(fresh, odd);
            allRefused(none, odd);
            allRefused(x, odd);
        }
    }

    /** A number that no call takes, in each place of each call. */
    private void allRefused(TrailBreakers x, int odd) {
        String all = odd + " in each place: ";
        refused(x, OUTSIDE, all + "letter", () -> x.letter(odd));
        refused(x, UNKNOWN, all + "stretch", () -> x.stretch(odd, odd));
        refused(x, OUTSIDE, all + "walker", () -> x.walker(odd, odd));
        refused(x, UNKNOWN, all + "about", () -> x.about(odd, odd));
        refused(x, UNKNOWN, all + "as", () -> x.as(odd, odd));
        refused(x, OUTSIDE, all + "snow", () -> x.snow(odd));
        refused(x, OUTSIDE, all + "best", () -> x.best(odd));
        refused(x, OUTSIDE, all + "far", () -> x.far(odd));
        refused(x, OUTSIDE, all + "setOut", () -> x.setOut(odd));
        refused(x, UNKNOWN, all + "tell", () -> x.tell(odd, odd));
        refused(x, UNKNOWN, all + "sure", () -> x.sure(odd));
        refused(x, OUTSIDE, all + "days", () -> x.days(odd, odd, odd));
        refused(x, OUTSIDE, all + "count", () -> x.count(odd));
    }

    private void imageLatest() {
        sentence(22, "An IMAGE is kept (one; the latest): how many STRETCHES are TRODDEN.");
        TrailBreakers x = Check.on("000000;0", WALKER, 9);
        for (int trodden = 0; trodden <= 6; trodden++) {
            due("image()", x.image(), trodden);
            if (trodden < 6) x.tread();
        }
        due("restore()", x.restore(), 6);
        TrailBreakers y = Check.on("00;0", WALKER, 9);
        y.image();
        y.tread();
        y.restore();
        due("image() of what was restored", y.image(), 0);
        y.tread();
        due("image(), the latest", y.image(), 1);
        y.tread();
        due("restore(), the latest", y.restore(), 1);
        due("restore(), not the one ahead", y.restore(), 1);
    }

    private void imageNoSlope() {
        sentence(22, "STATE: no SLOPE.");
        TrailBreakers x = Check.page("5;0");
        refused(x, STATE, "image()", x::image);
        refused(x, STATE, "restore() behind it", x::restore);
        x.slope();
        refused(x, STATE, "restore(), none was kept", x::restore);
        due("image() without walkers", x.image(), 0);
        x.walker(WALKER, 9);
        due("restore() without walkers", x.restore(), 0);
        due("count(2)", x.count(2), 0);
    }

    private void restoreNoneKept() {
        sentence(23, "STATE: none was kept, or there is another SLOPE since.");
        TrailBreakers none = Check.on("5;0", WALKER, 9);
        refused(none, STATE, "restore()", none::restore);
        TrailBreakers x = keptOn("4466;2");
        Check.write(x, "4466;");
        x.slope();
        due("restore(), the page was no slope", x.restore(), 1);
        x.letter('2');
        x.slope();
        refused(x, STATE, "restore(), one like it since", x::restore);
        x.walker(WALKER, 9);
        refused(x, STATE, "restore(), with a walker", x::restore);
        due("image()", x.image(), 0);
        due("restore() of the other", x.restore(), 0);
        due("it has one walker", x.count(2), 1);
    }

    private void countOutside() {
        sentence(24, "OUTSIDE.");
        TrailBreakers fresh = new TrailBreakers();
        TrailBreakers x = keptOn("4466;2");
        for (int what : new int[] {LEAST, -1, 11, 12, MOST}) {
            refused(fresh, OUTSIDE, "count(" + what + "), new", () -> fresh.count(what));
            refused(x, OUTSIDE, "count(" + what + ")", () -> x.count(what));
        }
        due("count(0)", x.count(0), 4);
        due("count(10)", x.count(10), 0);
    }

    private void countHighest() {
        TrailBreakers x = Check.on("999999;9", LONG, 99, LONG, 99, LONG, 99, LONG, 99, LONG, 99);
        for (int w = 0; w < 5; w++) x.tell(w, 6);
        due("count(5), all is left", x.count(5), 495);
        for (int s = 0; s < 6; s++) x.tread();
        for (int n = 0; n < 20; n++) x.best(0);
        for (int n = 0; n < 40; n++) x.fits();
        Check.write(x, "9999999999");
        int[] most = {6, 9, 5, 6, 30, 495 - 6 * (5 + 5 + 3 + 2 + 1), 5, 10, 1, 20, 40};
        for (int what = 0; what <= 10; what++) due("count(" + what + ")", x.count(what), most[what]);
    }

    private void digestWraps() {
        sentence(25, "31 times h, and it (as longs, wrapping):");
        // 787 times 31 to the 11 is more than a long holds: even a new object's digest wraps.
        due("of 11 numbers", new TrailBreakers().digest(), 1549727243761050381L);
        TrailBreakers x = Check.page("" + (char) 126 + (char) 126 + (char) 126 + (char) 126 + (char) 126);
        due("of 16 numbers", x.digest(), digestOf(126, 126, 126, 126, 126, 0, 0, 0, 0, 0, 0, 0, 5, 0, 0, 0));
    }

    private void digestOfEachState() {
        sentence(25, "of each WALKER what about() tells for 0 to 6; with WALKERS FAR by 1, 2, 3, what setOut() tells for 0; letters of THE PAGE; what count() tells for 0 to 10.");
        TrailBreakers x = Check.on("94;3");
        due("without walkers", x.digest(), digestOf(9, NONE, 4, NONE, 2, 3, 0, 0, 0, 0, 0, 0, 1, 0, 0));
        x.walker(WALKER, 8);
        due("they can't", x.digest(), digestOf(9, NONE, 4, NONE, 0, 8, 8, 0, 0, 9, NONE,
            0, 0, 0, NONE, 2, 3, 1, 0, 0, 8, 0, 0, 1, 0, 0));
        x.sun();
        x.tread();
        Check.write(x, "5");
        due("one is trodden", x.digest(), digestOf(6, 0, 1, NONE, 0, 8, 2, 0, 1, 1, NONE,
            1, 1, 1, 1, '5', 2, 3, 1, 1, 4, 2, 0, 1, 1, 0, 0));
        x.tread();
        x.tell(0, 0);
        due("all are trodden", x.digest(), digestOf(6, 0, 1, 0, 0, 8, 1, 0, 2, NONE, 0,
            0, 0, 0, 1, '5', 2, 3, 1, 2, 6, 1, 1, 1, 1, 0, 0));
        TrailBreakers full = Check.page("5;34567890");
        due("ten letters", full.digest(), digestOf('5', ';', '3', '4', '5', '6', '7', '8', '9', '0',
            0, 0, 0, 0, 0, 0, 0, 10, 0, 0, 0));
    }
}
