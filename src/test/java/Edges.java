import java.util.function.IntSupplier;

/** What the tests of boundary cases share: each quotes the sentence that it tests. */
abstract class Edges {
    static final int NONE = -1, UNKNOWN = -101, OUTSIDE = -102, STATE = -103, FULL = -104;
    static final int WALKER = 0, SHORT = 1, PROUD = 2, STRONG = 3, LONG = 4;
    static final int LEAST = Integer.MIN_VALUE, MOST = Integer.MAX_VALUE;
    /** The terms stand ahead of the promises. */
    static final int TERMS = 0;

    private final Check check;
    private final Sentences document;
    private String quoted = "";

    Edges(Check check, Sentences document) {
        this.check = check;
        this.document = document;
    }

    /** What follows tests these words of the document. */
    final void sentence(int promise, String words) {
        quoted = (promise == TERMS ? "terms" : "promise " + promise) + ", '" + words + "': ";
        check.holds(quoted + "is in the document", document.quote(promise, words));
    }

    final void due(String call, long got, long want) {
        check.due(quoted + call, got, want);
    }

    final void holds(String what, boolean so) {
        check.holds(quoted + what, so);
    }

    /** The call is refused so, and nothing that is told of all is otherwise then. */
    final void refused(TrailBreakers x, int why, String call, IntSupplier doIt) {
        long before = x.digest();
        due(call, doIt.getAsInt(), why);
        due(call + " changes nothing", x.digest(), before);
    }

    /** One question about each walker. */
    final void about(TrailBreakers x, int what, int... dueOfEach) {
        for (int w = 0; w < dueOfEach.length; w++) due("about(" + w + ", " + what + ")", x.about(w, what), dueOfEach[w]);
    }

    final void depths(TrailBreakers x, int... dueOfEach) {
        for (int s = 0; s < dueOfEach.length; s++) due("stretch(" + s + ", 0)", x.stretch(s, 0), dueOfEach[s]);
    }

    final void firsts(TrailBreakers x, int... dueOfEach) {
        for (int s = 0; s < dueOfEach.length; s++) due("stretch(" + s + ", 1)", x.stretch(s, 1), dueOfEach[s]);
    }

    static long digestOf(long... numbers) {
        long h = 787;
        for (long n : numbers) h = h * 31 + n;
        return h;
    }
}
