/** Boundary cases of the walkers: what each pays, minutes, changes, rests, snow, sun (promises 7 to 14). */
final class WalkerEdges extends Edges {
    private static final int[] ODD = {LEAST, -1, 5, 6, MOST};

    WalkerEdges(Check check, Sentences document) {
        super(check, document);
    }

    void run() {
        fiveAtMost();
        strengthAndLeft();
        whoIsOfWhichKind();
        whoComesIsTheLast();
        changesGoRound();
        paysByThoseAhead();
        paysBehindALongOne();
        paysHalfAsTheFirst();
        theyCan();
        minutesByDepth();
        minutesOfAProudOne();
        restUpToStrength();
        snowUpToNine();
        sunDownToZero();
        walkerRefused();
        aboutPlaces();
        aboutNoNextStretch();
        aboutTheBook();
        aboutRefused();
        asNoneSuch();
        asRefused();
        treadRefused();
        changeRefused();
        restRefused();
        snowRefused();
        sunRefused();
    }

    private static TrailBreakers fiveOn(String slope, int strength) {
        return Check.on(slope, WALKER, strength, WALKER, strength, WALKER, strength, WALKER, strength, WALKER, strength);
    }

    private void fiveAtMost() {
        sentence(TERMS, "WALKERS (5 at most, numbered)");
        TrailBreakers x = Check.on("5;0");
        due("count(2)", x.count(2), 0);
        for (int n = 0; n < 5; n++) {
            due("walker(0, 9)", x.walker(WALKER, 9), n);
            due("count(2)", x.count(2), n + 1);
        }
        refused(x, FULL, "walker(0, 9), the sixth", () -> x.walker(WALKER, 9));
        due("about(4, 1)", x.about(4, 1), 9);
        due("about(5, 1)", x.about(5, 1), UNKNOWN);
    }

    private void strengthAndLeft() {
        sentence(TERMS, "each with STRENGTH (1 to 99), of which so much is LEFT (all at first).");
        TrailBreakers x = Check.on("5;0", WALKER, 1, LONG, 99, SHORT, 50);
        about(x, 1, 1, 99, 50);
        about(x, 2, 1, 99, 50);
        refused(x, OUTSIDE, "walker(0, 0)", () -> x.walker(WALKER, 0));
        refused(x, OUTSIDE, "walker(0, 100)", () -> x.walker(WALKER, 100));
        due("count(5)", x.count(5), 150);
        TrailBreakers all = fiveOn("0;0", 99);
        due("count(5) of the strongest five", all.count(5), 495);
    }

    private void whoIsOfWhichKind() {
        sentence(TERMS, "All are WALKERS; a LONG one is STRONG, too.");
        TrailBreakers x = Check.on("5;0", WALKER, 5, SHORT, 5, PROUD, 5, STRONG, 5, LONG, 5);
        for (int w = 0; w < 5; w++) due("as(" + w + ", 0)", x.as(w, WALKER), w);
        due("as(4, 3)", x.as(4, STRONG), 4);
        due("a STRONG one is not LONG", x.as(3, LONG), NONE);
    }

    private void whoComesIsTheLast() {
        sentence(TERMS, "who comes is its last.");
        TrailBreakers x = Check.on("5;0", WALKER, 9);
        about(x, 3, 0);
        x.walker(WALKER, 9);
        about(x, 3, 0, 1);
        x.change();
        x.walker(WALKER, 9);
        about(x, 3, 1, 0, 2);
        x.change();
        x.change();
        x.walker(WALKER, 9);
        x.walker(WALKER, 9);
        about(x, 3, 2, 1, 0, 3, 4);
    }

    private void changesGoRound() {
        sentence(TERMS, "A CHANGE: the first of the FILE steps aside, and is the last then.");
        TrailBreakers one = Check.on("5;0", WALKER, 9);
        due("change() of one", one.change(), 0);
        about(one, 3, 0);
        TrailBreakers x = fiveOn("5;0", 9);
        for (int n = 1; n <= 4; n++) {
            due("change()", x.change(), n);
            due("he was the first", x.about(n - 1, 3), 4);
        }
        about(x, 3, 1, 2, 3, 4, 0);
        due("change(), the fifth", x.change(), 0);
        about(x, 3, 0, 1, 2, 3, 4);
    }

    private void paysByThoseAhead() {
        sentence(TERMS, "each PAYS its DEPTH by 2 as often as there go WALKERS ahead of him");
        int[][] pays = {
            {0, 0, 0, 0, 0}, {1, 1, 1, 1, 1}, {2, 1, 1, 1, 1}, {3, 2, 1, 1, 1}, {4, 2, 1, 1, 1},
            {5, 3, 2, 1, 1}, {6, 3, 2, 1, 1}, {7, 4, 2, 1, 1}, {8, 4, 2, 1, 1}, {9, 5, 3, 2, 1}};
        for (int depth = 0; depth <= 9; depth++) {
            TrailBreakers x = fiveOn(depth + ";0", 10);
            about(x, 5, pays[depth]);
            x.tread();
            for (int w = 0; w < 5; w++) due("left of " + w + " behind " + depth, x.about(w, 2), 10 - pays[depth][w]);
        }
    }

    private void paysBehindALongOne() {
        sentence(TERMS, "(a SHORT one right behind a LONG one: once less), rounded up in the end;");
        about(Check.on("9;0", LONG, 99, SHORT, 99), 5, 5, 9);
        about(Check.on("9;0", WALKER, 99, LONG, 99, SHORT, 99), 5, 9, 5, 5);
        about(Check.on("9;0", WALKER, 99, WALKER, 99, LONG, 99, SHORT, 99), 5, 9, 5, 3, 3);
        about(Check.on("9;0", WALKER, 99, WALKER, 99, WALKER, 99, LONG, 99, SHORT, 99), 5, 9, 5, 3, 2, 2);
        about(Check.on("1;0", WALKER, 99, WALKER, 99, WALKER, 99, LONG, 99, SHORT, 99), 5, 1, 1, 1, 1, 1);
        about(Check.on("0;0", LONG, 99, SHORT, 99), 5, 0, 0);
        about(Check.on("9;0", LONG, 99, WALKER, 99, SHORT, 99), 5, 5, 5, 3);
        about(Check.on("9;0", LONG, 99, SHORT, 99, SHORT, 99), 5, 5, 9, 3);
        about(Check.on("9;0", STRONG, 99, SHORT, 99), 5, 5, 5);
        about(Check.on("9;0", PROUD, 99, SHORT, 99), 5, 9, 5);
        about(Check.on("9;0", LONG, 99, LONG, 99), 5, 5, 5);
        about(Check.on("9;0", LONG, 99, STRONG, 99, PROUD, 99, WALKER, 99), 5, 5, 5, 3, 2);
        // The first goes behind none, not behind the last.
        about(Check.on("9;0", SHORT, 99, WALKER, 99, LONG, 99), 5, 9, 5, 3);
        TrailBreakers x = Check.on("9;0", LONG, 99, SHORT, 99, WALKER, 99);
        x.change();
        about(x, 5, 3, 9, 5);
        x.change();
        about(x, 5, 5, 5, 9);
    }

    private void paysHalfAsTheFirst() {
        sentence(TERMS, "a STRONG one (a LONG one) who is the first pays half of DEPTH, rounded up.");
        int[] half = {0, 1, 1, 2, 2, 3, 3, 4, 4, 5};
        for (int depth = 0; depth <= 9; depth++) {
            for (int kind = WALKER; kind <= LONG; kind++) {
                int pays = kind >= STRONG ? half[depth] : depth;
                TrailBreakers x = Check.on(depth + ";0", kind, 9);
                due("kind " + kind + " pays for " + depth, x.about(0, 5), pays);
                x.tread();
                due("left of kind " + kind + " behind " + depth, x.about(0, 2), 9 - pays);
            }
        }
        about(Check.on("9;0", WALKER, 9, STRONG, 9, LONG, 9), 5, 9, 5, 3);
    }

    private void theyCan() {
        sentence(TERMS, "They can, if there is such a STRETCH, and each has as much LEFT.");
        int[] enough = {10, 6, 4, 3, 2};
        due("each has just as much", treadTwice(enough), 2);
        for (int w = 0; w < 5; w++) {
            enough[w]--;
            due("one less of " + w, treadTwice(enough), STATE);
            enough[w]++;
        }
        TrailBreakers none = Check.on("99;0", STRONG, 10);
        due("half of it twice", none.tread(), 1);
        due("nothing is left", none.tread(), 2);
        due("none such", none.tread(), STATE);
        due("count(5)", none.count(5), 0);
        TrailBreakers flat = Check.on("90;0", WALKER, 9);
        due("all of it", flat.tread(), 1);
        due("by nothing left on 0", flat.tread(), 2);
    }

    /** On depths 1 and 9 each pays 1, then 9, 5, 3, 2, 1. */
    private int treadTwice(int[] strengths) {
        TrailBreakers x = Check.on("19;0");
        for (int strength : strengths) x.walker(WALKER, strength);
        due("tread(), the first", x.tread(), 1);
        int second = x.tread();
        if (second == STATE) due("who can't do not pay", x.count(5), 10 + 6 + 4 + 3 + 2 - 5 - 1);
        else due("count(5)", x.count(5), 0);
        return second;
    }

    private void minutesByDepth() {
        sentence(TERMS, "It takes 2 MINUTES, and 1 for each 3 of DEPTH (rounded down);");
        int[] minutes = {2, 2, 2, 3, 3, 3, 4, 4, 4, 5};
        for (int depth = 0; depth <= 9; depth++) {
            for (int kind = WALKER; kind <= LONG; kind++) {
                TrailBreakers x = Check.on(depth + ";0", kind, 9, kind, 9);
                x.tread();
                due("count(4) of " + depth + " by kind " + kind, x.count(4), minutes[depth]);
            }
        }
    }

    private void minutesOfAProudOne() {
        sentence(TERMS, "and 2 more, if a PROUD one is the first, and was the first on the STRETCH ahead, too.");
        TrailBreakers x = Check.on("000000;0", PROUD, 9, PROUD, 9);
        x.tread();
        due("there is no stretch ahead", x.count(4), 2);
        x.tread();
        due("he was the first there", x.count(4), 2 + 4);
        x.change();
        x.tread();
        due("another proud one was", x.count(4), 6 + 1 + 2);
        x.change();
        x.tread();
        due("he was, but two ahead", x.count(4), 9 + 1 + 2);
        x.change();
        x.change();
        x.tread();
        due("two changes between", x.count(4), 12 + 2 + 4);
        for (int kind = WALKER; kind <= LONG; kind++) {
            if (kind == PROUD) continue;
            TrailBreakers other = Check.on("00;0", kind, 9, PROUD, 9);
            other.tread();
            other.tread();
            due("kind " + kind + " is not proud", other.count(4), 4);
        }
    }

    private void restUpToStrength() {
        sentence(TERMS, "A REST takes 5 MINUTES: each has 1 more LEFT (STRENGTH at most).");
        TrailBreakers x = Check.on("2;0", WALKER, 99, WALKER, 1, WALKER, 50);
        due("rest(), all is left", x.rest(), 0);
        about(x, 2, 99, 1, 50);
        due("it takes as long", x.count(4), 5);
        x.tread();
        about(x, 2, 97, 0, 49);
        due("rest()", x.rest(), 3);
        about(x, 2, 98, 1, 50);
        due("rest(), of one", x.rest(), 1);
        about(x, 2, 99, 1, 50);
        due("rest(), of none", x.rest(), 0);
        about(x, 2, 99, 1, 50);
        due("count(4)", x.count(4), 5 + 2 + 15);
    }

    private void snowUpToNine() {
        sentence(TERMS, "SNOW: each STRETCH that is not TRODDEN is so much deeper (9 at most).");
        TrailBreakers x = Check.on("012789;0", WALKER, 50);
        due("snow(0)", x.snow(0), 27);
        depths(x, 0, 1, 2, 7, 8, 9);
        due("snow(1)", x.snow(1), 1 + 2 + 3 + 8 + 9 + 9);
        depths(x, 1, 2, 3, 8, 9, 9);
        x.tread();
        due("snow(9)", x.snow(9), 45);
        depths(x, 1, 9, 9, 9, 9, 9);
        TrailBreakers y = Check.on("0;0");
        due("snow(9) on 0", y.snow(9), 9);
        due("snow(9) on 9", y.snow(9), 9);
        TrailBreakers all = Check.on("00;0", WALKER, 9);
        all.tread();
        all.tread();
        due("snow(9), all are trodden", all.snow(9), 0);
        depths(all, 0, 0);
    }

    private void sunDownToZero() {
        sentence(TERMS, "SUN: each that is not TRODDEN is MELT less deep (0 at least).");
        TrailBreakers x = Check.on("912340;3", WALKER, 50);
        x.tread();
        due("sun()", x.sun(), 1);
        depths(x, 9, 0, 0, 0, 1, 0);
        due("sun() again", x.sun(), 0);
        depths(x, 9, 0, 0, 0, 0, 0);
        due("sun() on 0", x.sun(), 0);
        due("by 0", Check.on("901;0").sun(), 10);
        due("by 9", Check.on("987;9").sun(), 0);
        due("by 8", Check.on("989;8").sun(), 1 + 0 + 1);
        TrailBreakers all = Check.on("99;9", WALKER, 99);
        all.tread();
        all.tread();
        due("sun(), all are trodden", all.sun(), 0);
        depths(all, 9, 9);
    }

    private void walkerRefused() {
        sentence(7, "OUTSIDE: kind, strength;");
        TrailBreakers x = Check.on("5;0", WALKER, 9);
        for (int kind : ODD) refused(x, OUTSIDE, "walker(" + kind + ", 9)", () -> x.walker(kind, 9));
        for (int strength : new int[] {LEAST, -1, 0, 100, 101, MOST}) {
            refused(x, OUTSIDE, "walker(0, " + strength + ")", () -> x.walker(WALKER, strength));
        }
        due("walker(4, 99)", x.walker(LONG, 99), 1);
        due("walker(0, 1)", x.walker(WALKER, 1), 2);
        sentence(7, "STATE: no SLOPE;");
        TrailBreakers fresh = Check.page("5;0");
        refused(fresh, STATE, "walker(0, 9)", () -> fresh.walker(WALKER, 9));
        refused(fresh, OUTSIDE, "walker(5, 9), no slope", () -> fresh.walker(5, 9));
        refused(fresh, OUTSIDE, "walker(0, 100), no slope", () -> fresh.walker(WALKER, 100));
        fresh.slope();
        due("walker(0, 9) on a slope", fresh.walker(WALKER, 9), 0);
        sentence(7, "FULL.");
        TrailBreakers full = fiveOn("5;0", 9);
        refused(full, FULL, "walker(4, 99)", () -> full.walker(LONG, 99));
        refused(full, OUTSIDE, "walker(-1, 99), full", () -> full.walker(-1, 99));
        refused(full, OUTSIDE, "walker(4, 0), full", () -> full.walker(LONG, 0));
    }

    private void aboutPlaces() {
        sentence(8, "3 his place in the FILE (from 0), 4 on how many STRETCHES he was the first,");
        TrailBreakers x = fiveOn("000000;0", 9);
        about(x, 3, 0, 1, 2, 3, 4);
        about(x, 4, 0, 0, 0, 0, 0);
        for (int s = 0; s < 5; s++) x.tread();
        x.change();
        x.tread();
        about(x, 4, 5, 1, 0, 0, 0);
        about(x, 3, 4, 0, 1, 2, 3);
        TrailBreakers one = Check.on("000000;0", WALKER, 9);
        for (int s = 0; s < 6; s++) {
            about(one, 4, s);
            one.tread();
        }
        about(one, 4, 6);
    }

    private void aboutNoNextStretch() {
        sentence(8, "5 what he would PAY for the next STRETCH (NONE: there is none),");
        TrailBreakers x = Check.on("09;0", WALKER, 1, SHORT, 99);
        about(x, 5, 0, 0);
        x.tread();
        about(x, 5, 9, 5);
        due("more than he has", x.about(0, 2), 1);
        x.change();
        about(x, 5, 5, 9);
        TrailBreakers over = Check.on("9;0", WALKER, 99, SHORT, 99);
        over.tread();
        about(over, 5, NONE, NONE);
        due("who comes then", over.walker(LONG, 9), 2);
        about(over, 5, NONE, NONE, NONE);
    }

    private void aboutTheBook() {
        sentence(8, "6 what is told in the BOOK (NONE).");
        TrailBreakers x = Check.on("5;0", WALKER, 9, WALKER, 9);
        about(x, 6, NONE, NONE);
        x.tell(1, 0);
        about(x, 6, NONE, 0);
        x.tell(1, 6);
        about(x, 6, NONE, 6);
        x.tell(1, NONE);
        about(x, 6, NONE, NONE);
    }

    private void aboutRefused() {
        sentence(8, "UNKNOWN; OUTSIDE.");
        for (int walkers = 0; walkers <= 5; walkers++) {
            TrailBreakers x = Check.on("5;0");
            for (int w = 0; w < walkers; w++) x.walker(WALKER, 9);
            for (int w : new int[] {LEAST, -1, walkers, walkers + 1, MOST}) {
                refused(x, UNKNOWN, "about(" + w + ", 0) of " + walkers, () -> x.about(w, 0));
                refused(x, UNKNOWN, "about(" + w + ", 7) of " + walkers, () -> x.about(w, 7));
            }
            if (walkers > 0) due("about of the last", x.about(walkers - 1, 6), NONE);
        }
        TrailBreakers x = Check.on("5;0", WALKER, 9);
        for (int what : new int[] {LEAST, -1, 7, 8, MOST}) {
            refused(x, OUTSIDE, "about(0, " + what + ")", () -> x.about(0, what));
        }
    }

    private void asNoneSuch() {
        sentence(9, "NONE: he is none such (the cast fails).");
        TrailBreakers x = Check.on("5;0", WALKER, 5, SHORT, 5, PROUD, 5, STRONG, 5, LONG, 5);
        int[][] is = {
            {0, NONE, NONE, NONE, NONE},
            {1, 1, NONE, NONE, NONE},
            {2, NONE, 2, NONE, NONE},
            {3, NONE, NONE, 3, NONE},
            {4, NONE, NONE, 4, 4}};
        for (int w = 0; w < 5; w++) {
            for (int kind = 0; kind < 5; kind++) due("as(" + w + ", " + kind + ")", x.as(w, kind), is[w][kind]);
        }
    }

    private void asRefused() {
        sentence(9, "UNKNOWN; OUTSIDE.");
        TrailBreakers x = Check.on("5;0", LONG, 5, SHORT, 5);
        for (int w : new int[] {LEAST, -1, 2, 5, MOST}) {
            refused(x, UNKNOWN, "as(" + w + ", 0)", () -> x.as(w, 0));
            refused(x, UNKNOWN, "as(" + w + ", 5)", () -> x.as(w, 5));
        }
        for (int kind : ODD) refused(x, OUTSIDE, "as(1, " + kind + ")", () -> x.as(1, kind));
    }

    private void treadRefused() {
        sentence(10, "STATE: there are no WALKERS, or they can't.");
        TrailBreakers none = Check.on("0;0");
        refused(none, STATE, "tread(), no walkers", none::tread);
        TrailBreakers weak = Check.on("90;0", WALKER, 99, WALKER, 4);
        refused(weak, STATE, "tread(), the last can't", weak::tread);
        about(weak, 2, 99, 4);
        weak.change();
        refused(weak, STATE, "tread(), the first can't", weak::tread);
        about(weak, 2, 99, 4);
        due("no minutes but of the change", weak.count(4), 1);
        firsts(weak, NONE, NONE);
        TrailBreakers over = Check.on("0;0", WALKER, 9);
        due("tread()", over.tread(), 1);
        refused(over, STATE, "tread(), no more", over::tread);
        TrailBreakers six = Check.on("000000;0", WALKER, 1);
        for (int n = 1; n <= 6; n++) due("tread()", six.tread(), n);
        refused(six, STATE, "tread(), the seventh", six::tread);
    }

    private void changeRefused() {
        sentence(11, "STATE: there are no WALKERS.");
        TrailBreakers x = Check.on("5;0");
        refused(x, STATE, "change()", x::change);
        due("no minute", x.count(4), 0);
        x.walker(WALKER, 9);
        due("change() of one", x.change(), 0);
        due("a minute", x.count(4), 1);
    }

    private void restRefused() {
        sentence(12, "STATE: there are no WALKERS.");
        TrailBreakers x = Check.on("5;0");
        refused(x, STATE, "rest()", x::rest);
        due("no minutes", x.count(4), 0);
        x.walker(WALKER, 9);
        due("rest() of one", x.rest(), 0);
        TrailBreakers five = fiveOn("1;0", 1);
        five.tread();
        due("rest() of five", five.rest(), 5);
        due("rest() of five again", five.rest(), 0);
    }

    private void snowRefused() {
        sentence(13, "DEPTHS of all that are not TRODDEN together then. OUTSIDE: deep (0 to 9);");
        TrailBreakers x = Check.on("505;0");
        for (int deep : new int[] {LEAST, -1, 10, 11, MOST}) {
            refused(x, OUTSIDE, "snow(" + deep + ")", () -> x.snow(deep));
        }
        due("snow(0)", x.snow(0), 10);
        due("snow(9)", x.snow(9), 27);
        sentence(13, "STATE: no SLOPE.");
        TrailBreakers fresh = Check.page("5;5");
        refused(fresh, STATE, "snow(0)", () -> fresh.snow(0));
        refused(fresh, STATE, "snow(9)", () -> fresh.snow(9));
        refused(fresh, OUTSIDE, "snow(10), no slope", () -> fresh.snow(10));
        refused(fresh, OUTSIDE, "snow(-1), no slope", () -> fresh.snow(-1));
        fresh.slope();
        due("snow(0) without walkers", fresh.snow(0), 5);
    }

    private void sunRefused() {
        sentence(14, "DEPTHS of all that are not TRODDEN together then. STATE: no SLOPE.");
        TrailBreakers x = Check.page("75;5");
        refused(x, STATE, "sun()", x::sun);
        x.slope();
        due("sun() without walkers", x.sun(), 2);
    }
}
