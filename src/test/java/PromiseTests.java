/** Each promise of the document by numbers reckoned by hand: ordinary inputs, edges, wrong inputs. */
public final class PromiseTests {
    private static final int NONE = -1, UNKNOWN = -101, OUTSIDE = -102, STATE = -103, FULL = -104;
    private static final int WALKER = 0, SHORT = 1, PROUD = 2, STRONG = 3, LONG = 4;
    private static final int LEAST = Integer.MIN_VALUE, MOST = Integer.MAX_VALUE;

    private final Check check = new Check();

    public static void main(String[] args) {
        PromiseTests t = new PromiseTests();
        t.promise1NewObject();
        t.promise2Letter();
        t.promise3Blank();
        t.promise4Fault();
        t.promise5Slope();
        t.promise5SlopeTakesAllWithIt();
        t.promise6Stretch();
        t.promise7Walker();
        t.promise8About();
        t.promise8Pays();
        t.promise9As();
        t.promise10Tread();
        t.promise10Minutes();
        t.promise11Change();
        t.promise12Rest();
        t.promise13Snow();
        t.promise14Sun();
        t.promise15Best();
        t.promise15BestOfLikeOnes();
        t.promise15BestAtMostTwentyTimes();
        t.promise16Far();
        t.promise17SetOut();
        t.promise18Tell();
        t.promise19Fits();
        t.promise20Sure();
        t.promise19And20AtMostFortyTimes();
        t.promise21Days();
        t.promise22And23ImageAndRestore();
        t.promise23RestoreRefused();
        t.promise24Count();
        t.promise25Digest();
        t.fullest();
        t.check.end("PromiseTests");
    }

    private void due(String call, long got, long want) {
        check.due(call, got, want);
    }

    private void promise1NewObject() {
        TrailBreakers x = new TrailBreakers();
        for (int what = 0; what <= 10; what++) due("1: new, count(" + what + ")", x.count(what), 0);
        due("1: new, stretch(0, 0)", x.stretch(0, 0), UNKNOWN);
        due("1: new, about(0, 0)", x.about(0, 0), UNKNOWN);
        due("1: new, as(0, 0)", x.as(0, 0), UNKNOWN);
        due("1: new, walker(0, 5)", x.walker(0, 5), STATE);
        due("1: new, tread()", x.tread(), STATE);
        due("1: new, change()", x.change(), STATE);
        due("1: new, rest()", x.rest(), STATE);
        due("1: new, snow(1)", x.snow(1), STATE);
        due("1: new, sun()", x.sun(), STATE);
        due("1: new, best(0)", x.best(0), STATE);
        due("1: new, far(1)", x.far(1), STATE);
        due("1: new, setOut(0)", x.setOut(0), STATE);
        due("1: new, tell(0, 1)", x.tell(0, 1), UNKNOWN);
        due("1: new, fits()", x.fits(), STATE);
        due("1: new, sure(0)", x.sure(0), UNKNOWN);
        due("1: new, days(1, 0, 0)", x.days(1, 0, 0), STATE);
        due("1: new, image()", x.image(), STATE);
        due("1: new, restore()", x.restore(), STATE);
        due("1: new, slope()", x.slope(), STATE);
        due("1: new, fault()", x.fault(), 0);
        due("1: new, blank()", x.blank(), 0);
    }

    private void promise2Letter() {
        TrailBreakers x = new TrailBreakers();
        int[] wrong = {0, -1, 127, LEAST, MOST};
        for (int code : wrong) due("2: letter(" + code + ")", x.letter(code), OUTSIDE);
        due("2: letter(1)", x.letter(1), 1);
        due("2: letter(126)", x.letter(126), 2);
        for (int n = 3; n <= 10; n++) due("2: letter the " + n + "th", x.letter('0'), n);
        due("2: letter the 11th", x.letter('0'), FULL);
        due("2: wrong letter, page full", x.letter(127), OUTSIDE);
        due("2: page still of 10", x.count(7), 10);
    }

    private void promise3Blank() {
        TrailBreakers x = Check.page("12345");
        due("3: blank()", x.blank(), 5);
        due("3: blank() again", x.blank(), 0);
        due("3: letter() behind it", x.letter('7'), 1);
        due("3: fault() behind it", x.fault(), 1);
    }

    private void promise4Fault() {
        faultAt("", 0);
        faultAt("0", 1);
        faultAt("9", 1);
        faultAt("123456", 6);
        faultAt("1234567", 6);
        faultAt("123456;", 7);
        faultAt("123456;9", 8);
        faultAt("123456;98", 8);
        faultAt("1234567;9", 6);
        faultAt(";", 0);
        faultAt(";5", 0);
        faultAt("5;", 2);
        faultAt("5;;", 2);
        faultAt("5;3", 3);
        faultAt("5;33", 3);
        faultAt("5;3;", 3);
        faultAt("5 ;3", 1);
        faultAt("5/", 1);
        faultAt("5:3", 1);
        faultAt("/", 0);
        faultAt("12a4;3", 2);
        faultAt("5;a", 2);
        faultAt("aa", 0);
    }

    private void faultAt(String page, int place) {
        TrailBreakers x = Check.page(page);
        due("4: fault() of " + page, x.fault(), place);
        due("4: page of " + page + " stays", x.count(7), page.length());
    }

    private void promise5Slope() {
        String[] none = {"", "5", "5;", ";", ";3", "123456", "1234567;1", "5;33", "5;3;", "a;3", "5;a", "5:3"};
        for (String page : none) {
            TrailBreakers x = Check.page(page);
            due("5: slope() of " + page, x.slope(), STATE);
            due("5: page of " + page + " stays", x.count(7), page.length());
            due("5: no slope was read of " + page, x.count(8), 0);
        }
        TrailBreakers x = Check.page("5;3");
        due("5: slope() of 5;3", x.slope(), 1);
        due("5: page is empty", x.count(7), 0);
        due("5: depth", x.stretch(0, 0), 5);
        due("5: melt", x.count(1), 3);
        Check.write(x, "012389;0");
        due("5: slope() of 012389;0", x.slope(), 6);
        int[] depths = {0, 1, 2, 3, 8, 9};
        for (int s = 0; s < 6; s++) due("5: depth of " + s, x.stretch(s, 0), depths[s]);
        due("5: melt of the other", x.count(1), 0);
        due("5: read twice", x.count(8), 2);
    }

    private void promise5SlopeTakesAllWithIt() {
        TrailBreakers x = Check.on("44;1", WALKER, 20, WALKER, 20);
        x.tell(0, 1);
        x.tread();
        x.best(0);
        x.fits();
        x.image();
        Check.write(x, "1;");
        due("5: not a slope yet", x.slope(), STATE);
        due("5: refused, walkers stay", x.count(2), 2);
        due("5: refused, image stays", x.restore(), 1);
        x.letter('2');
        due("5: another slope", x.slope(), 1);
        due("5: it is not trodden", x.count(3), 0);
        due("5: none was first", x.stretch(0, 1), NONE);
        due("5: walkers are gone", x.count(2), 0);
        due("5: minutes are gone", x.count(4), 0);
        due("5: the book is gone", x.count(6), 0);
        due("5: what is left is gone", x.count(5), 0);
        due("5: how often best() was done stays", x.count(9), 1);
        due("5: how often fits() was done stays", x.count(10), 1);
        due("5: walker 0 comes anew", x.walker(PROUD, 7), 0);
        due("5: nothing is told of him", x.about(0, 6), NONE);
        due("5: he was nowhere first", x.about(0, 4), 0);
    }

    private void promise6Stretch() {
        TrailBreakers x = Check.on("37;1", WALKER, 20, WALKER, 20);
        due("6: stretch(1, 0)", x.stretch(1, 0), 7);
        due("6: stretch(0, 1)", x.stretch(0, 1), NONE);
        x.change();
        x.tread();
        due("6: first on 0", x.stretch(0, 1), 1);
        due("6: first on 1", x.stretch(1, 1), NONE);
        x.snow(1);
        due("6: trodden, no deeper", x.stretch(0, 0), 3);
        due("6: deeper", x.stretch(1, 0), 8);
        int[] wrong = {-1, 2, 5, 6, LEAST, MOST};
        for (int s : wrong) due("6: stretch(" + s + ", 9)", x.stretch(s, 9), UNKNOWN);
        due("6: stretch(0, -1)", x.stretch(0, -1), OUTSIDE);
        due("6: stretch(0, 2)", x.stretch(0, 2), OUTSIDE);
    }

    private void promise7Walker() {
        TrailBreakers x = new TrailBreakers();
        due("7: OUTSIDE ahead of STATE", x.walker(5, 5), OUTSIDE);
        due("7: STATE", x.walker(4, 99), STATE);
        x = Check.on("5;0");
        due("7: kind -1", x.walker(-1, 5), OUTSIDE);
        due("7: kind 5", x.walker(5, 5), OUTSIDE);
        due("7: strength 0", x.walker(0, 0), OUTSIDE);
        due("7: strength 100", x.walker(0, 100), OUTSIDE);
        due("7: extremes", x.walker(LEAST, MOST), OUTSIDE);
        due("7: strength 1", x.walker(0, 1), 0);
        due("7: strength 99", x.walker(4, 99), 1);
        x.change();
        due("7: the third", x.walker(1, 50), 2);
        due("7: he is the last", x.about(2, 3), 2);
        due("7: all is left of him", x.about(2, 2), 50);
        due("7: the fourth", x.walker(2, 50), 3);
        due("7: the fifth", x.walker(3, 50), 4);
        due("7: FULL", x.walker(0, 50), FULL);
        due("7: OUTSIDE ahead of FULL", x.walker(0, 100), OUTSIDE);
        due("7: five", x.count(2), 5);
    }

    private void promise8About() {
        TrailBreakers x = Check.on("44;0", LONG, 30, PROUD, 21);
        x.change();
        x.tread();
        x.tell(1, 6);
        int[] first = {LONG, 30, 28, 1, 0, 2, NONE};
        int[] second = {PROUD, 21, 17, 0, 1, 4, 6};
        for (int what = 0; what <= 6; what++) {
            due("8: about(0, " + what + ")", x.about(0, what), first[what]);
            due("8: about(1, " + what + ")", x.about(1, what), second[what]);
        }
        x.tread();
        due("8: he was first twice", x.about(1, 4), 2);
        due("8: no next stretch", x.about(0, 5), NONE);
        int[] wrong = {-1, 2, 5, LEAST, MOST};
        for (int w : wrong) due("8: about(" + w + ", 9)", x.about(w, 9), UNKNOWN);
        due("8: about(0, 7)", x.about(0, 7), OUTSIDE);
        due("8: about(0, -1)", x.about(0, -1), OUTSIDE);
    }

    private void promise8Pays() {
        pays("9;0", new int[] {WALKER, WALKER, WALKER, WALKER, WALKER}, new int[] {9, 5, 3, 2, 1});
        pays("8;0", new int[] {WALKER, WALKER, WALKER, WALKER, WALKER}, new int[] {8, 4, 2, 1, 1});
        pays("1;0", new int[] {WALKER, PROUD, SHORT, STRONG, LONG}, new int[] {1, 1, 1, 1, 1});
        pays("0;0", new int[] {LONG, SHORT, SHORT, LONG, SHORT}, new int[] {0, 0, 0, 0, 0});
        pays("9;0", new int[] {STRONG, STRONG, LONG}, new int[] {5, 5, 3});
        pays("9;0", new int[] {LONG, SHORT, SHORT, LONG, SHORT}, new int[] {5, 9, 3, 2, 2});
        pays("9;0", new int[] {WALKER, LONG, SHORT, WALKER, SHORT}, new int[] {9, 5, 5, 2, 1});
        pays("9;0", new int[] {STRONG, SHORT, LONG, WALKER, SHORT}, new int[] {5, 5, 3, 2, 1});
        pays("9;0", new int[] {SHORT, PROUD, LONG, LONG, SHORT}, new int[] {9, 5, 3, 2, 2});
        pays("9;0", new int[] {PROUD, PROUD}, new int[] {9, 5});
        TrailBreakers x = Check.on("9;0", SHORT, 20, LONG, 20);
        due("8: the first is behind none", x.about(0, 5), 9);
        x.change();
        due("8: now he is right behind a long one", x.about(0, 5), 9);
        due("8: who is the first now", x.about(1, 5), 5);
    }

    private void pays(String slope, int[] kinds, int[] want) {
        TrailBreakers x = Check.on(slope);
        for (int kind : kinds) x.walker(kind, 50);
        for (int w = 0; w < kinds.length; w++) due("8: on " + slope + " the one at " + w + " pays", x.about(w, 5), want[w]);
        x.tread();
        for (int w = 0; w < kinds.length; w++) due("10: on " + slope + " left of " + w, x.about(w, 2), 50 - want[w]);
    }

    private void promise9As() {
        TrailBreakers x = Check.on("5;0", WALKER, 5, SHORT, 5, PROUD, 5, STRONG, 5, LONG, 5);
        boolean[][] is = {
            {true, false, false, false, false},
            {true, true, false, false, false},
            {true, false, true, false, false},
            {true, false, false, true, false},
            {true, false, false, true, true}};
        for (int w = 0; w < 5; w++) {
            for (int kind = 0; kind < 5; kind++) due("9: as(" + w + ", " + kind + ")", x.as(w, kind), is[w][kind] ? w : NONE);
            due("9: as(" + w + ", -1)", x.as(w, -1), OUTSIDE);
            due("9: as(" + w + ", 5)", x.as(w, 5), OUTSIDE);
        }
        due("9: as(5, 9)", x.as(5, 9), UNKNOWN);
        due("9: as(-1, 0)", x.as(-1, 0), UNKNOWN);
    }

    private void promise10Tread() {
        TrailBreakers x = Check.on("44;0");
        due("10: no walkers", x.tread(), STATE);
        x.walker(WALKER, 8);
        x.walker(WALKER, 3);
        due("10: tread()", x.tread(), 1);
        due("10: the second has 1 and pays 2", x.tread(), STATE);
        due("10: nothing is paid", x.count(5), 4 + 1);
        due("10: no minutes", x.count(4), 3);
        x.rest();
        due("10: as much as is left", x.tread(), 2);
        due("10: of the first", x.about(0, 2), 1);
        due("10: of the second", x.about(1, 2), 0);
        due("10: no such stretch", x.tread(), STATE);
        x = Check.on("4;0", WALKER, 4);
        due("10: all that he has", x.tread(), 1);
        x = Check.on("5;0", WALKER, 4);
        due("10: the first can't", x.tread(), STATE);
    }

    private void promise10Minutes() {
        int[] minutes = {2, 2, 2, 3, 3, 3, 4, 4, 4, 5};
        for (int depth = 0; depth <= 9; depth++) {
            TrailBreakers x = Check.on(depth + ";0", PROUD, 50);
            x.tread();
            due("10: minutes for " + depth, x.count(4), minutes[depth]);
        }
        TrailBreakers x = Check.on("000000;0", PROUD, 5, PROUD, 5, WALKER, 5);
        x.tread();
        x.tread();
        due("10: a proud one twice", x.count(4), 2 + 4);
        x.tread();
        due("10: thrice", x.count(4), 2 + 4 + 4);
        x.change();
        x.tread();
        due("10: another proud one", x.count(4), 10 + 1 + 2);
        x.change();
        x.change();
        x.tread();
        due("10: the proud one, not on the stretch ahead", x.count(4), 13 + 2 + 2);
        x.change();
        x.change();
        x.change();
        x.tread();
        due("10: changes between are no matter", x.count(4), 17 + 3 + 4);
        x = Check.on("00;0", WALKER, 5);
        x.tread();
        x.tread();
        due("10: who is not proud", x.count(4), 4);
        x = Check.on("00;0", LONG, 5);
        x.tread();
        x.tread();
        due("10: nor is a long one", x.count(4), 4);
    }

    private void promise11Change() {
        TrailBreakers x = Check.on("5;0");
        due("11: no walkers", x.change(), STATE);
        x.walker(WALKER, 5);
        due("11: of one", x.change(), 0);
        due("11: a minute", x.count(4), 1);
        x.walker(WALKER, 5);
        x.walker(WALKER, 5);
        due("11: of three", x.change(), 1);
        due("11: he is the last", x.about(0, 3), 2);
        due("11: who is in the middle", x.about(2, 3), 1);
        due("11: again", x.change(), 2);
        due("11: and again", x.change(), 0);
        due("11: minutes", x.count(4), 4);
    }

    private void promise12Rest() {
        TrailBreakers x = Check.on("5;0");
        due("12: no walkers", x.rest(), STATE);
        due("12: no minutes", x.count(4), 0);
        x.walker(WALKER, 9);
        x.walker(WALKER, 9);
        due("12: all is left", x.rest(), 0);
        due("12: minutes all the same", x.count(4), 5);
        x.tread();
        x.walker(WALKER, 9);
        due("12: two of three", x.rest(), 2);
        due("12: of the first", x.about(0, 2), 5);
        due("12: of the second", x.about(1, 2), 7);
        due("12: of the third", x.about(2, 2), 9);
        x.rest();
        x.rest();
        due("12: the first alone", x.rest(), 1);
        due("12: strength at most", x.about(1, 2), 9);
    }

    private void promise13Snow() {
        TrailBreakers x = new TrailBreakers();
        due("13: OUTSIDE ahead of STATE", x.snow(10), OUTSIDE);
        due("13: STATE", x.snow(9), STATE);
        x = Check.on("158;3");
        due("13: snow(0)", x.snow(0), 14);
        due("13: snow(2), 9 at most", x.snow(2), 3 + 7 + 9);
        x.walker(WALKER, 9);
        x.tread();
        due("13: what is trodden is as it was", x.snow(1), 8 + 9);
        due("13: depth of 0", x.stretch(0, 0), 3);
        due("13: depth of 1", x.stretch(1, 0), 8);
        due("13: depth of 2", x.stretch(2, 0), 9);
        due("13: snow(9)", x.snow(9), 18);
        int[] wrong = {-1, 10, LEAST, MOST};
        for (int deep : wrong) due("13: snow(" + deep + ")", x.snow(deep), OUTSIDE);
        due("13: no minutes but for treading", x.count(4), 3);
    }

    private void promise14Sun() {
        due("14: STATE", new TrailBreakers().sun(), STATE);
        TrailBreakers x = Check.on("158;3", WALKER, 9);
        x.tread();
        due("14: sun()", x.sun(), 2 + 5);
        due("14: what is trodden is as it was", x.stretch(0, 0), 1);
        due("14: 0 at least", x.sun(), 2);
        due("14: depth of 1", x.stretch(1, 0), 0);
        due("14: again", x.sun(), 0);
        due("14: melt stays", x.count(1), 3);
        due("14: no minutes", x.count(4), 2);
        due("14: no melt", Check.on("19;0").sun(), 10);
    }

    private void promise15Best() {
        TrailBreakers x = Check.on("8;0", WALKER, 20, WALKER, 10);
        due("15: least", x.best(0), 6);
        due("15: changes", x.best(1), 0);
        due("15: first", x.best(10), 0);
        due("15: no stretch 1", x.best(11), NONE);
        due("15: no stretch 5", x.best(15), NONE);
        x.change();
        due("15: least, turned", x.best(0), 6);
        due("15: changes, turned", x.best(1), 1);
        due("15: first, turned", x.best(10), 0);
        due("15: nothing is done", x.count(3), 0);
        due("15: the file is as it was", x.about(1, 3), 0);
        x = Check.on("9;0", WALKER, 8);
        due("15: no such firsts, least", x.best(0), NONE);
        due("15: no such firsts, changes", x.best(1), NONE);
        due("15: no such firsts, first", x.best(10), NONE);
        x = Check.on("4;0", WALKER, 8, WALKER, 8);
        due("15: by no change", x.best(1), 0);
        x.snow(9);
        due("15: no firsts any more, changes", x.best(1), NONE);
        due("15: no firsts any more, first", x.best(10), NONE);
        x = Check.on("48;0", WALKER, 20, WALKER, 20);
        x.tread();
        due("15: one is trodden, least", x.best(0), 10);
        due("15: it has no first", x.best(10), NONE);
        due("15: the next one has", x.best(11), 1);
        due("15: by a change", x.best(1), 1);
        x.tread();
        due("15: all are trodden, least", x.best(0), 8);
        due("15: all are trodden, changes", x.best(1), 0);
        due("15: all are trodden, first", x.best(11), NONE);
    }

    private void promise15BestOfLikeOnes() {
        TrailBreakers x = Check.on("4;0", WALKER, 9, WALKER, 9);
        due("15: like ones, first in the file", x.best(10), 0);
        x.change();
        due("15: like ones, fewest changes", x.best(10), 1);
        due("15: like ones, changes", x.best(1), 0);
        x = Check.on("444;0", WALKER, 20, WALKER, 20);
        due("15: by numbers, least", x.best(0), 10);
        due("15: by numbers, changes", x.best(1), 1);
        due("15: by numbers, 0", x.best(10), 0);
        due("15: by numbers, 1", x.best(11), 0);
        due("15: by numbers, 2", x.best(12), 1);
        x = Check.on("99;0", WALKER, 9, WALKER, 30);
        due("15: the one can't behind the other, either", x.best(0), NONE);
        x = Check.on("99;0", WALKER, 12, WALKER, 30);
        due("15: the other is first on both", x.best(10), 1);
        due("15: least then", x.best(0), 2);
        due("15: one change then", x.best(1), 1);
    }

    private void promise15BestAtMostTwentyTimes() {
        TrailBreakers x = Check.on("9;0", WALKER, 8);
        int[] wrong = {-1, 2, 9, 16, LEAST, MOST};
        for (int what : wrong) due("15: best(" + what + ")", x.best(what), OUTSIDE);
        due("15: refused is not done", x.count(9), 0);
        for (int n = 1; n <= 12; n++) x.best(0);
        due("15: NONE is done", x.count(9), 12);
        Check.write(x, "3;0");
        x.slope();
        due("15: STATE, no walkers", x.best(0), STATE);
        due("15: OUTSIDE ahead of STATE", x.best(2), OUTSIDE);
        x.walker(WALKER, 8);
        for (int n = 13; n <= 20; n++) due("15: the " + n + "th", x.best(0), 5);
        due("15: the 21st", x.best(0), STATE);
        due("15: OUTSIDE ahead of STATE, done", x.best(16), OUTSIDE);
        due("15: 20 were done", x.count(9), 20);
    }

    private void promise16Far() {
        TrailBreakers x = Check.on("444444;0");
        due("16: OUTSIDE ahead of STATE", x.far(0), OUTSIDE);
        due("16: no walkers", x.far(1), STATE);
        x.walker(WALKER, 10);
        due("16: of one", x.far(1), 2);
        x.walker(WALKER, 10);
        int[] far = {3, 3, 2, 2, 2, 2};
        for (int by = 1; by <= 6; by++) due("16: far(" + by + ")", x.far(by), far[by - 1]);
        x.tread();
        due("16: from now on", x.far(1), 2);
        due("16: nothing is done", x.count(3), 1);
        due("16: the file is as it was", x.about(0, 3), 0);
        int[] wrong = {0, -1, 7, LEAST, MOST};
        for (int by : wrong) due("16: far(" + by + ")", x.far(by), OUTSIDE);
        x = Check.on("000000;0", WALKER, 1);
        due("16: all", x.far(6), 6);
        x.tread();
        due("16: all from now on", x.far(4), 5);
        x = Check.on("0;0", WALKER, 1);
        x.tread();
        due("16: no more", x.far(1), 0);
    }

    private void promise17SetOut() {
        TrailBreakers x = Check.on("80;0");
        due("17: OUTSIDE ahead of STATE", x.setOut(1), OUTSIDE);
        due("17: no walkers", x.setOut(0), STATE);
        x.walker(WALKER, 10);
        x.walker(WALKER, 20);
        setsOut(x, 6, 1, 0);
        x.tread();
        setsOut(x, 6, 1, 0);
        due("17: nothing is done", x.about(0, 2), 2);
        due("17: the file is as it was", x.about(0, 3), 0);
        x.snow(9);
        setsOut(x, NONE, NONE, NONE);
        int[] wrong = {-1, 1, 9, 15, LEAST, MOST};
        for (int what : wrong) due("17: setOut(" + what + ")", x.setOut(what), OUTSIDE);
        setsOut(Check.on("44;0", WALKER, 9, WALKER, 9), 3, 0, 1);
        setsOut(Check.on("9;0", SHORT, 20, LONG, 20), 11, 0, 1);
        setsOut(Check.on("9;0", WALKER, 20, LONG, 20), 15, 1, 0);
        x = Check.on("9;0", WALKER, 9, WALKER, 9, WALKER, 9, WALKER, 9, WALKER, 10);
        due("17: of five, least", x.setOut(0), 1);
        due("17: of five, the first", x.setOut(10), 4);
        for (int place = 1; place <= 4; place++) due("17: of five, " + place, x.setOut(10 + place), place - 1);
    }

    private void setsOut(TrailBreakers x, int least, int first, int second) {
        due("17: setOut(0)", x.setOut(0), least);
        due("17: setOut(10)", x.setOut(10), first);
        due("17: setOut(11)", x.setOut(11), second);
        due("17: setOut(12)", x.setOut(12), NONE);
        due("17: setOut(14)", x.setOut(14), NONE);
    }

    private void promise18Tell() {
        TrailBreakers x = Check.on("5;0", WALKER, 9, WALKER, 9);
        due("18: at first", x.tell(0, 0), NONE);
        due("18: what was told", x.tell(0, 6), 0);
        due("18: told", x.about(0, 6), 6);
        due("18: of the other nothing", x.about(1, 6), NONE);
        due("18: of how many", x.count(6), 1);
        due("18: nothing any more", x.tell(0, NONE), 6);
        due("18: of none", x.count(6), 0);
        int[] wrong = {-2, 7, LEAST, MOST};
        for (int often : wrong) due("18: tell(0, " + often + ")", x.tell(0, often), OUTSIDE);
        due("18: refused, nothing is told", x.about(0, 6), NONE);
        due("18: tell(2, 9)", x.tell(2, 9), UNKNOWN);
        due("18: tell(-1, 0)", x.tell(-1, 0), UNKNOWN);
    }

    private void promise19Fits() {
        TrailBreakers x = Check.on("44;0", WALKER, 9, WALKER, 9);
        due("19: nothing is told", x.fits(), 4);
        x.tell(0, 1);
        due("19: the one once", x.fits(), 2);
        x.tell(1, 1);
        due("19: each once", x.fits(), 2);
        x.tell(1, 0);
        due("19: one stretch is too many", x.fits(), 0);
        x.tell(0, 2);
        due("19: the one on both", x.fits(), 1);
        x.tell(0, 3);
        x.tell(1, NONE);
        due("19: more than there are", x.fits(), 0);
        x = Check.on("000;0", WALKER, 9, WALKER, 9);
        x.tell(0, 2);
        due("19: twice of three", x.fits(), 3);
        due("19: only what can be trodden", Check.on("44;0", WALKER, 7, WALKER, 7).fits(), 2);
        x = Check.on("44;0", WALKER, 9, WALKER, 9);
        x.tread();
        due("19: one is trodden", x.fits(), 2);
        x.tell(0, 0);
        due("19: only stretches that are not trodden", x.fits(), 1);
        x.change();
        x.tread();
        due("19: all are trodden", x.fits(), 1);
        x.tell(1, 1);
        due("19: all are trodden, one is told", x.fits(), 0);
        due("19: six by five", Check.on("000000;0", 0, 1, 0, 1, 0, 1, 0, 1, 0, 1).fits(), 15625);
    }

    private void promise20Sure() {
        TrailBreakers x = Check.on("44;0", WALKER, 9, WALKER, 9);
        due("20: not sure", x.sure(0), NONE);
        x.tell(0, 0);
        due("20: the other on 0", x.sure(0), 1);
        due("20: the other on 1", x.sure(1), 1);
        x.tell(1, 0);
        due("20: no such firsts", x.sure(0), NONE);
        x.tell(0, 1);
        x.tell(1, 1);
        due("20: either", x.sure(1), NONE);
        x = Check.on("09;0", WALKER, 8, WALKER, 9);
        due("20: only he can be first there", x.sure(1), 1);
        due("20: on the one ahead either can", x.sure(0), NONE);
        x.tell(0, 1);
        due("20: so he is first on the one ahead", x.sure(0), 0);
        x.tread();
        int done = x.count(10);
        int[] wrong = {0, 2, -1, 6, LEAST, MOST};
        for (int s : wrong) due("20: sure(" + s + ")", x.sure(s), UNKNOWN);
        due("20: refused is not done", x.count(10), done);
        due("20: no walkers", Check.on("5;0").sure(0), STATE);
        due("20: UNKNOWN ahead of STATE", Check.on("5;0").sure(1), UNKNOWN);
    }

    private void promise19And20AtMostFortyTimes() {
        TrailBreakers x = Check.on("44;0", WALKER, 9);
        for (int n = 1; n <= 20; n++) {
            due("19: the " + n + "th", x.fits(), 1);
            if (n == 10) {
                Check.write(x, "44;0");
                x.slope();
                due("19: no walkers", x.fits(), STATE);
                x.walker(WALKER, 9);
            }
            due("20: the " + n + "th", x.sure(1), 0);
        }
        due("19: 40 were done", x.count(10), 40);
        due("19: the 41st", x.fits(), STATE);
        due("20: the 41st", x.sure(0), STATE);
        due("20: UNKNOWN ahead of STATE, done", x.sure(2), UNKNOWN);
        due("19: still 40", x.count(10), 40);
    }

    private void promise21Days() {
        TrailBreakers x = Check.on("34;0", WALKER, 10, WALKER, 10);
        due("21: snow, rest, snow", x.days(3, 7, 0), 0);
        due("21: then they tread 7", x.days(4, 7, 0), 1);
        due("21: what is left then", x.days(4, 7, 1), 3 + 6);
        due("21: then 9 is too deep", x.days(6, 7, 0), 1);
        due("21: rests", x.days(8, 7, 1), 5 + 8);
        due("21: the seed with a second draw", x.days(5, 7, 2), 2083449087);
        due("21: the seed", x.days(8, 7, 2), 734865450);
        due("21: from 0", x.days(1, 0, 2), 12345);
        due("21: from the greatest", x.days(1, MOST, 2), 288979989);
        due("21: nothing is done", x.count(3), 0);
        due("21: no snow fell", x.stretch(0, 0), 3);
        due("21: no minutes", x.count(4), 0);
        x = Check.on("48;0", WALKER, 20, STRONG, 20);
        due("21: changes, then the strong one treads", x.days(2, 4, 1), 18 + 18);
        due("21: again", x.days(3, 4, 1), 14 + 14);
        due("21: there are no more", x.days(4, 4, 0), 2);
        due("21: two changes, the other treads", x.days(3, 3, 1), 16 + 18);
        due("21: a rest behind", x.days(7, 3, 1), 9 + 15);
        due("21: 60 times", x.days(60, 5, 0), 2);
        int[][] wrong = {{0, 1, 0}, {61, 1, 0}, {1, -1, 0}, {1, 1, -1}, {1, 1, 3}, {LEAST, MOST, MOST}};
        for (int[] w : wrong) due("21: days" + w[0] + ", " + w[1] + ", " + w[2], x.days(w[0], w[1], w[2]), OUTSIDE);
        x = Check.on("48;0");
        due("21: OUTSIDE ahead of STATE", x.days(61, 1, 0), OUTSIDE);
        due("21: no walkers", x.days(60, 1, 0), STATE);
    }

    private void promise22And23ImageAndRestore() {
        TrailBreakers x = Check.on("4466;2", WALKER, 30, PROUD, 20);
        due("23: none was kept", x.restore(), STATE);
        x.tell(1, 2);
        x.change();
        x.tread();
        due("22: image()", x.image(), 1);
        long then = x.digest();
        x.change();
        x.tread();
        x.snow(2);
        x.tell(1, NONE);
        x.tell(0, 1);
        x.walker(LONG, 9);
        x.tell(2, 3);
        x.rest();
        check.holds("22: much is otherwise", x.digest() != then);
        due("23: restore()", x.restore(), 1);
        due("23: all is as it was", x.digest(), then);
        due("23: who came since is gone", x.about(2, 0), UNKNOWN);
        due("23: who was first", x.stretch(0, 1), 1);
        due("23: none was first", x.stretch(1, 1), NONE);
        due("23: minutes", x.count(4), 1 + 3);
        x.tread();
        due("23: he was first ahead of it, too", x.count(4), 4 + 3 + 2);
        due("23: the next who comes", x.walker(SHORT, 3), 2);
        due("23: nothing is told of him", x.about(2, 6), NONE);
        due("23: again", x.restore(), 1);
        due("23: all is as it was again", x.digest(), then);
        x.tread();
        due("22: the latest", x.image(), 2);
        x.tread();
        due("23: the latest", x.restore(), 2);
        Check.write(x, "7;");
        x.best(0);
        x.fits();
        x.restore();
        due("23: the page is no matter", x.count(7), 2);
        due("23: nor is best()", x.count(9), 1);
        due("23: nor is fits()", x.count(10), 1);
    }

    private void promise23RestoreRefused() {
        TrailBreakers x = Check.on("4;2");
        due("22: without walkers", x.image(), 0);
        x.walker(WALKER, 9);
        due("23: without walkers", x.restore(), 0);
        due("23: there are none", x.count(2), 0);
        Check.write(x, "4;2");
        x.slope();
        due("23: another slope since", x.restore(), STATE);
        x.image();
        due("23: kept since", x.restore(), 0);
    }

    private void promise24Count() {
        TrailBreakers x = Check.on("4466;2", WALKER, 30, WALKER, 20, WALKER, 10);
        x.tell(2, 0);
        x.tread();
        x.tread();
        Check.write(x, "12;");
        x.best(0);
        x.best(1);
        x.best(10);
        x.fits();
        x.sure(3);
        x.fits();
        x.sure(2);
        int[] want = {4, 2, 3, 2, 6, 22 + 16 + 8, 1, 3, 1, 3, 4};
        for (int what = 0; what <= 10; what++) due("24: count(" + what + ")", x.count(what), want[what]);
        int[] wrong = {-1, 11, LEAST, MOST};
        for (int what : wrong) due("24: count(" + what + ")", x.count(what), OUTSIDE);
    }

    private void promise25Digest() {
        due("25: new", new TrailBreakers().digest(), digestOf(0, 0, 0, 0, 0, 0, 0, 0, 0, 0, 0));
        TrailBreakers x = Check.on("57;3");
        Check.write(x, "7;");
        due("25: without walkers", x.digest(), digestOf(5, NONE, 7, NONE, 55, 59, 2, 3, 0, 0, 0, 0, 0, 2, 1, 0, 0));
        x = Check.on("5;3", WALKER, 10);
        due("25: with one walker", x.digest(), digestOf(5, NONE, WALKER, 10, 10, 0, 0, 5, NONE,
            1, 1, 1, 5, 1, 3, 1, 0, 0, 10, 0, 0, 1, 0, 0));
        x = Check.on("50;3", WALKER, 10, LONG, 12);
        x.tell(1, 2);
        x.tread();
        Check.write(x, "a");
        due("25: with walkers", x.digest(), digestOf(5, 0, 0, NONE,
            WALKER, 10, 5, 0, 1, 0, NONE, LONG, 12, 9, 1, 0, 0, 2,
            1, 1, 1, 7, 97, 2, 3, 2, 1, 3, 14, 1, 1, 1, 0, 0));
        due("25: it changes nothing", x.digest(), x.digest());
    }

    /** As many letters, stretches, walkers as there may be. */
    private void fullest() {
        TrailBreakers x = Check.page("0123456789");
        due("fullest: slope()", x.slope(), STATE);
        due("fullest: fault()", x.fault(), 6);
        x.blank();
        Check.write(x, "000000;1");
        x.slope();
        for (int w = 0; w < 5; w++) x.walker(WALKER, 9);
        due("fullest: best(0)", x.best(0), 9);
        due("fullest: best(1)", x.best(1), 0);
        due("fullest: best(15)", x.best(15), 0);
        due("fullest: sun()", x.sun(), 0);
        due("fullest: snow(1)", x.snow(1), 6);
        due("fullest: rest()", x.rest(), 0);
        due("fullest: far(6)", x.far(6), 6);
        for (int n = 1; n <= 6; n++) due("fullest: tread()", x.tread(), n);
        due("fullest: tread() once more", x.tread(), STATE);
        due("fullest: often first", x.about(0, 4), 6);
        due("fullest: never first", x.about(4, 4), 0);
        due("fullest: left", x.about(4, 2), 3);
        due("fullest: pays", x.about(4, 5), NONE);
        due("fullest: rest() of all", x.rest(), 5);
        due("fullest: snow(9)", x.snow(9), 0);
        due("fullest: sun() in the end", x.sun(), 0);
        due("fullest: far(1)", x.far(1), 0);
        due("fullest: setOut(0)", x.setOut(0), 3);
        due("fullest: setOut(14)", x.setOut(14), 4);
        due("fullest: best(0) in the end", x.best(0), 4);
        due("fullest: fits()", x.fits(), 1);
        due("fullest: sure(5)", x.sure(5), UNKNOWN);
        due("fullest: image()", x.image(), 6);
        due("fullest: restore()", x.restore(), 6);
        due("fullest: days(60, 1, 0)", x.days(60, 1, 0), 6);
        due("fullest: days(60, 1, 1)", x.days(60, 1, 1), 45);
    }

    private static long digestOf(int... numbers) {
        long h = 787;
        for (int n : numbers) h = h * 31 + n;
        return h;
    }
}
