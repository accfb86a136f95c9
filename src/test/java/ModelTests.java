import java.util.Random;

/** Runs of calls, drawn by fixed seeds, on the class and on the model: each answer must be the same. */
public final class ModelTests {
    private static final int RUNS = 400;
    private static final int[] ODD = {-1, 0, 1, 5, 6, 7, 9, 10, 16, 99, 100, 127, Integer.MAX_VALUE, Integer.MIN_VALUE};

    private final Check check;
    private final Random random;
    private TrailBreakers x = new TrailBreakers();
    private Model m = new Model();
    private String told = "";

    private ModelTests(Check check, long seed) {
        this.check = check;
        this.random = new Random(seed);
        this.told = "seed " + seed + ": ";
    }

    public static void main(String[] args) {
        int runs = args.length > 0 ? Integer.parseInt(args[0]) : RUNS;
        Check check = new Check();
        for (int seed = 0; seed < runs; seed++) new ModelTests(check, seed).run();
        check.end("ModelTests");
    }

    private void run() {
        int calls = random.nextInt(4) == 0 ? 500 : 120;
        int used = 0;
        boolean strong = random.nextBoolean();
        while (used + 20 < calls) {
            used += random.nextInt(40) == 0 || m.now.depths.isEmpty() ? start(strong) : call();
        }
        due("digest()", x.digest(), m.digest());
    }

    private void due(String call, long got, long want) {
        check.due(told + call, got, want);
    }

    /** A slope is written, right or wrong, and walkers come. */
    private int start(boolean strong) {
        int calls = 1;
        int length = 1 + random.nextInt(6);
        for (int i = 0; i < length; i++, calls++) letter('0' + random.nextInt(10));
        letter(';');
        letter('0' + random.nextInt(10));
        if (random.nextInt(4) == 0) letter('0' + random.nextInt(12));
        due("fault()", x.fault(), m.fault());
        due("slope()", x.slope(), m.slope());
        int walkers = random.nextInt(6);
        for (int i = 0; i < walkers; i++, calls++) walker(random.nextInt(5), 1 + random.nextInt(strong ? 60 : 25));
        return calls + 5;
    }

    private void letter(int code) {
        due("letter(" + code + ")", x.letter(code), m.letter(code));
    }

    private void walker(int kind, int strength) {
        due("walker(" + kind + ", " + strength + ")", x.walker(kind, strength), m.walker(kind, strength));
    }

    /** A number below the bound mostly, else an odd one. */
    private int number(int bound) {
        return random.nextInt(12) == 0 ? ODD[random.nextInt(ODD.length)] : random.nextInt(bound);
    }

    private int what(int low, int rowLength) {
        return random.nextBoolean() ? number(low) : 10 + number(rowLength);
    }

    private int call() {
        int a;
        int b;
        int c;
        switch (random.nextInt(27)) {
            case 0 -> letter(random.nextBoolean() ? '0' + random.nextInt(12) : number(127));
            case 1 -> due("blank()", x.blank(), m.blank());
            case 2 -> due("fault()", x.fault(), m.fault());
            case 3 -> due("slope()", x.slope(), m.slope());
            case 4 -> due("stretch(" + (a = number(6)) + ", " + (b = number(2)) + ")", x.stretch(a, b), m.stretch(a, b));
            case 5 -> walker(number(5), number(40));
            case 6, 7 -> due("about(" + (a = number(5)) + ", " + (b = number(7)) + ")", x.about(a, b), m.about(a, b));
            case 8 -> due("as(" + (a = number(5)) + ", " + (b = number(5)) + ")", x.as(a, b), m.as(a, b));
            case 9 -> due("tread()", x.tread(), m.tread());
            case 10, 11 -> due("change()", x.change(), m.change());
            case 12 -> due("rest()", x.rest(), m.rest());
            case 13 -> due("snow(" + (a = number(4)) + ")", x.snow(a), m.snow(a));
            case 14 -> due("sun()", x.sun(), m.sun());
            case 15 -> due("best(" + (a = what(2, 6)) + ")", x.best(a), m.best(a));
            case 16 -> due("far(" + (a = number(7)) + ")", x.far(a), m.far(a));
            case 17 -> due("setOut(" + (a = what(1, 5)) + ")", x.setOut(a), m.setOut(a));
            case 18, 19 -> due("tell(" + (a = number(5)) + ", " + (b = number(4) - random.nextInt(2)) + ")", x.tell(a, b), m.tell(a, b));
            case 20 -> due("fits()", x.fits(), m.fits());
            case 21 -> due("sure(" + (a = number(6)) + ")", x.sure(a), m.sure(a));
            case 22 -> due("days(" + (a = number(61)) + ", " + (b = random.nextInt()) + ", " + (c = number(3)) + ")", x.days(a, b, c), m.days(a, b, c));
            case 23 -> due("image()", x.image(), m.image());
            case 24 -> due("restore()", x.restore(), m.restore());
            case 25 -> due("count(" + (a = number(11)) + ")", x.count(a), m.count(a));
            default -> due("digest()", x.digest(), m.digest());
        }
        return 1;
    }
}
