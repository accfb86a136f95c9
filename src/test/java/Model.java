import java.util.ArrayList;
import java.util.List;

/**
 * The document once more, written another way: walkers are objects, halves are counted in sixteenths,
 * every question is answered by doing it on a copy. Slow and plain; ModelTests compares it with the class.
 */
final class Model {
    static final int NONE = -1, UNKNOWN = -101, OUTSIDE = -102, STATE = -103, FULL = -104;

    static class Walker {
        int number, kind, strength, left, told = NONE;

        Walker copy() {
            Walker w = new Walker();
            w.number = number;
            w.kind = kind;
            w.strength = strength;
            w.left = left;
            w.told = told;
            return w;
        }
    }

    static class Scene {
        List<Integer> depths = new ArrayList<>();
        List<Integer> firsts = new ArrayList<>();
        List<Walker> walkers = new ArrayList<>();
        List<Walker> file = new ArrayList<>();
        int melt, minutes;

        Scene copy() {
            Scene s = new Scene();
            s.depths.addAll(depths);
            s.firsts.addAll(firsts);
            for (Walker w : walkers) s.walkers.add(w.copy());
            for (Walker w : file) s.file.add(s.walkers.get(w.number));
            s.melt = melt;
            s.minutes = minutes;
            return s;
        }

        int trodden() {
            return firsts.size();
        }

        boolean over() {
            return trodden() == depths.size();
        }

        int pay(Walker w) {
            int place = file.indexOf(w);
            int sixteenths = 16 * depths.get(trodden());
            for (int ahead = 0; ahead < place; ahead++) sixteenths /= 2;
            if (place > 0 && w.kind == 1 && file.get(place - 1).kind == 4) sixteenths *= 2;
            if (place == 0 && (w.kind == 3 || w.kind == 4)) sixteenths /= 2;
            return (int) Math.ceil(sixteenths / 16.0);
        }

        boolean tread() {
            if (file.isEmpty() || over()) return false;
            for (Walker w : file) if (pay(w) > w.left) return false;
            int[] due = new int[walkers.size()];
            for (Walker w : file) due[w.number] = pay(w);
            for (Walker w : file) w.left -= due[w.number];
            Walker first = file.get(0);
            minutes += 2 + depths.get(trodden()) / 3;
            if (first.kind == 2 && trodden() > 0 && firsts.get(trodden() - 1) == first.number) minutes += 2;
            firsts.add(first.number);
            return true;
        }

        void change() {
            file.add(file.remove(0));
            minutes += 1;
        }

        int rest() {
            int more = 0;
            for (Walker w : walkers) {
                if (w.left != w.strength) {
                    w.left++;
                    more++;
                }
            }
            minutes += 5;
            return more;
        }

        int deepen(int by) {
            int sum = 0;
            for (int s = trodden(); s < depths.size(); s++) {
                int depth = depths.get(s) + by;
                if (depth > 9) depth = 9;
                if (depth < 0) depth = 0;
                depths.set(s, depth);
                sum += depth;
            }
            return sum;
        }

        int least() {
            int least = 1000;
            for (Walker w : walkers) least = Math.min(least, w.left);
            return least;
        }

        int left() {
            int sum = 0;
            for (Walker w : walkers) sum += w.left;
            return sum;
        }
    }

    /** One way to the hut: who was the first on each stretch in the end, what is least left, changes. */
    record Way(List<Integer> firsts, int least, int changes) {
    }

    String page = "";
    Scene now = new Scene();
    Scene kept = null;
    int slopes, bests, fittings;

    int letter(int code) {
        if (code < 1 || code > 126) return OUTSIDE;
        if (page.length() == 10) return FULL;
        page += (char) code;
        return page.length();
    }

    int blank() {
        int had = page.length();
        page = "";
        return had;
    }

    int fault() {
        for (int n = 1; n <= page.length(); n++) {
            String start = page.substring(0, n);
            if (!start.matches("[0-9]{1,6}") && !start.matches("[0-9]{1,6};[0-9]?")) return n - 1;
        }
        return page.length();
    }

    int slope() {
        if (!page.matches("[0-9]{1,6};[0-9]")) return STATE;
        now = new Scene();
        kept = null;
        String[] parts = page.split(";");
        for (char c : parts[0].toCharArray()) now.depths.add(c - '0');
        now.melt = Integer.parseInt(parts[1]);
        page = "";
        slopes++;
        return now.depths.size();
    }

    int stretch(int stretch, int what) {
        if (stretch < 0 || stretch >= now.depths.size()) return UNKNOWN;
        if (what < 0 || what > 1) return OUTSIDE;
        if (what == 0) return now.depths.get(stretch);
        return stretch < now.trodden() ? now.firsts.get(stretch) : NONE;
    }

    int walker(int kind, int strength) {
        if (kind < 0 || kind > 4 || strength < 1 || strength > 99) return OUTSIDE;
        if (now.depths.isEmpty()) return STATE;
        if (now.walkers.size() == 5) return FULL;
        Walker w = new Walker();
        w.number = now.walkers.size();
        w.kind = kind;
        w.strength = strength;
        w.left = strength;
        now.walkers.add(w);
        now.file.add(w);
        return w.number;
    }

    int about(int walker, int what) {
        if (walker < 0 || walker >= now.walkers.size()) return UNKNOWN;
        if (what < 0 || what > 6) return OUTSIDE;
        Walker w = now.walkers.get(walker);
        if (what == 0) return w.kind;
        if (what == 1) return w.strength;
        if (what == 2) return w.left;
        if (what == 3) return now.file.indexOf(w);
        if (what == 4) return (int) now.firsts.stream().filter(f -> f == walker).count();
        if (what == 5) return now.over() ? NONE : now.pay(w);
        return w.told;
    }

    int as(int walker, int kind) {
        if (walker < 0 || walker >= now.walkers.size()) return UNKNOWN;
        if (kind < 0 || kind > 4) return OUTSIDE;
        int is = now.walkers.get(walker).kind;
        return kind == is || kind == 0 || (is == 4 && kind == 3) ? walker : NONE;
    }

    int tread() {
        return now.tread() ? now.trodden() : STATE;
    }

    int change() {
        if (now.file.isEmpty()) return STATE;
        now.change();
        return now.file.get(0).number;
    }

    int rest() {
        return now.file.isEmpty() ? STATE : now.rest();
    }

    int snow(int deep) {
        if (deep < 0 || deep > 9) return OUTSIDE;
        return now.depths.isEmpty() ? STATE : now.deepen(deep);
    }

    int sun() {
        return now.depths.isEmpty() ? STATE : now.deepen(-now.melt);
    }

    /** Every way to the hut from a scene, by numbers. */
    private static void ways(Scene scene, int changes, List<Way> all) {
        if (scene.over()) {
            all.add(new Way(scene.firsts, scene.least(), changes));
            return;
        }
        for (int first = 0; first < scene.walkers.size(); first++) {
            Scene then = scene.copy();
            int more = 0;
            while (then.file.get(0).number != first) {
                then.change();
                more++;
            }
            if (then.tread()) ways(then, changes + more, all);
        }
    }

    int best(int what) {
        if (what != 0 && what != 1 && (what < 10 || what > 15)) return OUTSIDE;
        if (now.walkers.isEmpty() || bests == 20) return STATE;
        bests++;
        List<Way> all = new ArrayList<>();
        ways(now, 0, all);
        Way best = null;
        for (Way way : all) {
            if (best == null || way.least > best.least || (way.least == best.least && way.changes < best.changes)) best = way;
        }
        if (best == null) return NONE;
        if (what == 0) return best.least;
        if (what == 1) return best.changes;
        int stretch = what - 10;
        return stretch < now.trodden() || stretch >= now.depths.size() ? NONE : best.firsts.get(stretch);
    }

    int far(int by) {
        if (by < 1 || by > 6) return OUTSIDE;
        if (now.walkers.isEmpty()) return STATE;
        Scene then = now.copy();
        while (true) {
            for (int i = 0; i < by; i++) {
                if (!then.tread()) return then.trodden() - now.trodden();
            }
            then.change();
        }
    }

    private static void files(List<Integer> start, int size, List<List<Integer>> all) {
        if (start.size() == size) {
            all.add(start);
            return;
        }
        for (int w = 0; w < size; w++) {
            if (start.contains(w)) continue;
            List<Integer> more = new ArrayList<>(start);
            more.add(w);
            files(more, size, all);
        }
    }

    private int leastBySettingOut(List<Integer> file) {
        Scene then = now.copy();
        then.firsts.clear();
        then.file.clear();
        for (int w : file) then.file.add(then.walkers.get(w));
        for (Walker w : then.walkers) w.left = w.strength;
        while (!then.over()) {
            if (!then.tread()) return NONE;
            then.change();
        }
        return then.least();
    }

    int setOut(int what) {
        if (what != 0 && (what < 10 || what > 14)) return OUTSIDE;
        if (now.walkers.isEmpty()) return STATE;
        List<List<Integer>> all = new ArrayList<>();
        files(new ArrayList<>(), now.walkers.size(), all);
        int most = NONE;
        List<Integer> best = null;
        for (List<Integer> file : all) {
            int least = leastBySettingOut(file);
            if (least > most) {
                most = least;
                best = file;
            }
        }
        if (best == null || what == 0) return most;
        return what - 10 < best.size() ? best.get(what - 10) : NONE;
    }

    int tell(int walker, int often) {
        if (walker < 0 || walker >= now.walkers.size()) return UNKNOWN;
        if (often < -1 || often > 6) return OUTSIDE;
        int was = now.walkers.get(walker).told;
        now.walkers.get(walker).told = often;
        return was;
    }

    private List<Way> fitting() {
        List<Way> all = new ArrayList<>();
        ways(now, 0, all);
        List<Way> fitting = new ArrayList<>();
        for (Way way : all) {
            List<Integer> ahead = way.firsts.subList(now.trodden(), way.firsts.size());
            boolean fits = true;
            for (Walker w : now.walkers) {
                long often = ahead.stream().filter(f -> f == w.number).count();
                if (w.told != NONE && w.told != often) fits = false;
            }
            if (fits) fitting.add(way);
        }
        return fitting;
    }

    int fits() {
        if (now.walkers.isEmpty() || fittings == 40) return STATE;
        fittings++;
        return fitting().size();
    }

    int sure(int stretch) {
        if (stretch < now.trodden() || stretch >= now.depths.size()) return UNKNOWN;
        if (now.walkers.isEmpty() || fittings == 40) return STATE;
        fittings++;
        List<Way> fitting = fitting();
        if (fitting.isEmpty()) return NONE;
        int first = fitting.get(0).firsts.get(stretch);
        for (Way way : fitting) if (way.firsts.get(stretch) != first) return NONE;
        return first;
    }

    private long seed;

    private int draw(int of) {
        seed = (1103515245L * seed + 12345L) & 0x7fffffffL;
        return (int) ((seed >> 16) % of);
    }

    int days(int times, int from, int what) {
        if (times < 1 || times > 60 || from < 0 || what < 0 || what > 2) return OUTSIDE;
        if (now.walkers.isEmpty()) return STATE;
        Scene then = now.copy();
        seed = from;
        for (int i = 0; i < times; i++) {
            switch (draw(5)) {
                case 0, 1 -> then.tread();
                case 2 -> then.change();
                case 3 -> then.rest();
                default -> then.deepen(draw(3));
            }
        }
        return what == 0 ? then.trodden() : what == 1 ? then.left() : (int) seed;
    }

    int image() {
        if (now.depths.isEmpty()) return STATE;
        kept = now.copy();
        return now.trodden();
    }

    int restore() {
        if (kept == null) return STATE;
        now = kept.copy();
        return now.trodden();
    }

    int count(int what) {
        return switch (what) {
            case 0 -> now.depths.size();
            case 1 -> now.melt;
            case 2 -> now.walkers.size();
            case 3 -> now.trodden();
            case 4 -> now.minutes;
            case 5 -> now.left();
            case 6 -> (int) now.walkers.stream().filter(w -> w.told != NONE).count();
            case 7 -> page.length();
            case 8 -> slopes;
            case 9 -> bests;
            case 10 -> fittings;
            default -> OUTSIDE;
        };
    }

    long digest() {
        List<Integer> numbers = new ArrayList<>();
        for (int s = 0; s < now.depths.size(); s++) {
            numbers.add(stretch(s, 0));
            numbers.add(stretch(s, 1));
        }
        for (Walker w : now.walkers) for (int what = 0; what < 7; what++) numbers.add(about(w.number, what));
        if (!now.walkers.isEmpty()) {
            numbers.add(far(1));
            numbers.add(far(2));
            numbers.add(far(3));
            numbers.add(setOut(0));
        }
        for (char c : page.toCharArray()) numbers.add((int) c);
        for (int what = 0; what < 11; what++) numbers.add(count(what));
        long h = 787;
        for (int n : numbers) h = 31 * h + n;
        return h;
    }
}
