/**
 * Who breaks the trail: a slope of stretches, a file of walkers, who is first on which stretch.
 *
 * Every row is made by a constructor and used again: no call makes an object.
 */
public final class TrailBreakers {
    public static final int NONE = -1, UNKNOWN = -101, OUTSIDE = -102, STATE = -103, FULL = -104;

    private static final int MOST_LETTERS = 10, LAST_CODE = 126;
    private static final int MOST_STRETCHES = 6, MOST_WALKERS = 5;
    private static final int MOST_DEPTH = 9, MOST_STRENGTH = 99, MOST_OFTEN = 6, MOST_TIMES = 60;
    private static final int MOST_BEST = 20, MOST_FITS = 40;
    private static final int SHORT = 1, PROUD = 2, STRONG = 3, LONG = 4;
    /** Questions from here on ask for one place of a row: of best() a stretch, of setOut() a place in the file. */
    private static final int ROW = 10;

    private final Page page = new Page();
    private final Trail now = new Trail();
    private final Trail kept = new Trail();
    private final Trail trial = new Trail();
    private final BestFirsts bestFirsts = new BestFirsts();
    private final BookFirsts bookFirsts = new BookFirsts();
    private final SettingOut settingOut = new SettingOut();
    private boolean imageStands = false;
    private int slopesRead = 0;
    private int bestDone = 0;
    private int fitsDone = 0;

    public TrailBreakers() {
    }

    // ---- the slope

    public int letter(int code) {
        if (code < 1 || code > LAST_CODE) return OUTSIDE;
        if (page.size >= MOST_LETTERS) return FULL;
        page.append(code);
        return page.size;
    }

    public int blank() {
        int had = page.size;
        page.size = 0;
        return had;
    }

    public int fault() {
        return page.firstWrongPlace();
    }

    public int slope() {
        if (!page.isSlope()) return STATE;
        now.begin(page);
        page.size = 0;
        imageStands = false;
        slopesRead++;
        return now.stretches;
    }

    public int stretch(int stretch, int what) {
        if (!now.hasStretch(stretch)) return UNKNOWN;
        if (what == 0) return now.depth[stretch];
        if (what == 1) return now.firstOn[stretch];
        return OUTSIDE;
    }

    // ---- walkers

    public int walker(int kind, int strength) {
        if (!isKind(kind) || strength < 1 || strength > MOST_STRENGTH) return OUTSIDE;
        if (now.stretches == 0) return STATE;
        if (now.walkers >= MOST_WALKERS) return FULL;
        return now.join(kind, strength);
    }

    public int about(int walker, int what) {
        if (!now.hasWalker(walker)) return UNKNOWN;
        switch (what) {
            case 0: return now.kind[walker];
            case 1: return now.strength[walker];
            case 2: return now.left[walker];
            case 3: return now.placeOf(walker);
            case 4: return now.timesFirst(walker);
            case 5: return now.nextPay(walker);
            case 6: return now.told[walker];
            default: return OUTSIDE;
        }
    }

    public int as(int walker, int kind) {
        if (!now.hasWalker(walker)) return UNKNOWN;
        if (!isKind(kind)) return OUTSIDE;
        return now.isOfKind(walker, kind) ? walker : NONE;
    }

    public int tread() {
        return now.treadNext() ? now.trodden : STATE;
    }

    public int change() {
        if (now.walkers == 0) return STATE;
        now.changeFirst();
        return now.file[0];
    }

    public int rest() {
        if (now.walkers == 0) return STATE;
        return now.restAll();
    }

    public int snow(int deep) {
        if (deep < 0 || deep > MOST_DEPTH) return OUTSIDE;
        if (now.stretches == 0) return STATE;
        now.deepenBy(deep);
        return now.depthAhead();
    }

    public int sun() {
        if (now.stretches == 0) return STATE;
        now.deepenBy(-now.melt);
        return now.depthAhead();
    }

    // ---- what would be

    public int best(int what) {
        boolean asksForFirst = what >= ROW && what < ROW + MOST_STRETCHES;
        if (what != 0 && what != 1 && !asksForFirst) return OUTSIDE;
        if (now.walkers == 0 || bestDone >= MOST_BEST) return STATE;
        bestDone++;
        bestFirsts.search(now);
        if (asksForFirst) return bestFirsts.firsts[what - ROW];
        return what == 0 ? bestFirsts.least : bestFirsts.changes;
    }

    public int far(int by) {
        if (by < 1 || by > MOST_STRETCHES) return OUTSIDE;
        if (now.walkers == 0) return STATE;
        trial.copyFrom(now);
        for (int done = 1; done <= MOST_STRETCHES && trial.treadNext(); done++) {
            if (done % by == 0) trial.changeFirst();
        }
        return trial.trodden - now.trodden;
    }

    public int setOut(int what) {
        boolean asksForPlace = what >= ROW && what < ROW + MOST_WALKERS;
        if (what != 0 && !asksForPlace) return OUTSIDE;
        if (now.walkers == 0) return STATE;
        settingOut.search(now);
        return asksForPlace ? settingOut.file[what - ROW] : settingOut.least;
    }

    // ---- a book

    public int tell(int walker, int often) {
        if (!now.hasWalker(walker)) return UNKNOWN;
        if (often != NONE && (often < 0 || often > MOST_OFTEN)) return OUTSIDE;
        int was = now.told[walker];
        now.told[walker] = often;
        return was;
    }

    public int fits() {
        if (!mayReadBook()) return STATE;
        fitsDone++;
        bookFirsts.search(now, NONE);
        return bookFirsts.found;
    }

    public int sure(int stretch) {
        if (!now.hasStretch(stretch) || stretch < now.trodden) return UNKNOWN;
        if (!mayReadBook()) return STATE;
        fitsDone++;
        bookFirsts.search(now, stretch);
        return bookFirsts.agreed;
    }

    public int days(int times, int seed, int what) {
        if (times < 1 || times > MOST_TIMES || seed < 0 || what < 0 || what > 2) return OUTSIDE;
        if (now.walkers == 0) return STATE;
        trial.copyFrom(now);
        int last = spendDays(times, seed);
        if (what == 0) return trial.trodden;
        return what == 1 ? trial.leftOfAll() : last;
    }

    // ---- what is told of all

    public int image() {
        if (now.stretches == 0) return STATE;
        kept.copyFrom(now);
        imageStands = true;
        return now.trodden;
    }

    public int restore() {
        if (!imageStands) return STATE;
        now.copyFrom(kept);
        return now.trodden;
    }

    public int count(int what) {
        switch (what) {
            case 0: return now.stretches;
            case 1: return now.melt;
            case 2: return now.walkers;
            case 3: return now.trodden;
            case 4: return now.minutes;
            case 5: return now.leftOfAll();
            case 6: return now.toldOf();
            case 7: return page.size;
            case 8: return slopesRead;
            case 9: return bestDone;
            case 10: return fitsDone;
            default: return OUTSIDE;
        }
    }

    public long digest() {
        long h = 787;
        for (int s = 0; s < now.stretches; s++) {
            for (int what = 0; what <= 1; what++) h = 31 * h + stretch(s, what);
        }
        for (int w = 0; w < now.walkers; w++) {
            for (int what = 0; what <= 6; what++) h = 31 * h + about(w, what);
        }
        if (now.walkers > 0) {
            for (int by = 1; by <= 3; by++) h = 31 * h + far(by);
            h = 31 * h + setOut(0);
        }
        for (int place = 0; place < page.size; place++) h = 31 * h + page.codes[place];
        for (int what = 0; what <= 10; what++) h = 31 * h + count(what);
        return h;
    }

    private static boolean isKind(int kind) {
        return kind >= 0 && kind <= LONG;
    }

    private boolean mayReadBook() {
        return now.walkers > 0 && fitsDone < MOST_FITS;
    }

    /** The trial goes through so many days; answers the seed behind the last draw. */
    private int spendDays(int times, int firstSeed) {
        int seed = firstSeed;
        for (int day = 0; day < times; day++) {
            seed = nextSeed(seed);
            int drawn = (seed / 65536) % 5;
            if (drawn <= 1) {
                trial.treadNext();
            } else if (drawn == 2) {
                trial.changeFirst();
            } else if (drawn == 3) {
                trial.restAll();
            } else {
                seed = nextSeed(seed);
                trial.deepenBy((seed / 65536) % 3);
            }
        }
        return seed;
    }

    private static int nextSeed(int seed) {
        return (int) ((1103515245L * seed + 12345L) % 2147483648L);
    }

    /** The letters that a slope is read from. */
    private static final class Page {
        final int[] codes = new int[MOST_LETTERS];
        int size = 0;

        void append(int code) {
            if (size >= MOST_LETTERS) return;
            codes[size] = code;
            size++;
        }

        int firstWrongPlace() {
            int mark = NONE;
            for (int place = 0; place < size; place++) {
                boolean digit = codes[place] >= '0' && codes[place] <= '9';
                if (mark == NONE && codes[place] == ';' && place > 0) {
                    mark = place;
                } else if (!digit || place >= placesForDigits(mark)) {
                    return place;
                }
            }
            return size;
        }

        private static int placesForDigits(int mark) {
            return mark == NONE ? MOST_STRETCHES : mark + 2;
        }

        boolean isSlope() {
            return size >= 3 && codes[size - 2] == ';' && firstWrongPlace() == size;
        }

        int digitAt(int place) {
            return place >= 0 && place < size ? codes[place] - '0' : 0;
        }
    }

    /** A slope with its walkers, as it is, as it was kept, or as it would be. */
    private static final class Trail {
        int stretches = 0;
        int melt = 0;
        int trodden = 0;
        int walkers = 0;
        int minutes = 0;
        final int[] depth = new int[MOST_STRETCHES];
        final int[] firstOn = new int[MOST_STRETCHES];
        final int[] kind = new int[MOST_WALKERS];
        final int[] strength = new int[MOST_WALKERS];
        final int[] left = new int[MOST_WALKERS];
        final int[] told = new int[MOST_WALKERS];
        final int[] file = new int[MOST_WALKERS];
        /** Only for the time of a tread. */
        final int[] dues = new int[MOST_WALKERS];

        void begin(Page page) {
            stretches = Math.min(page.size - 2, MOST_STRETCHES);
            melt = page.digitAt(page.size - 1);
            trodden = 0;
            walkers = 0;
            minutes = 0;
            for (int s = 0; s < stretches; s++) {
                depth[s] = page.digitAt(s);
                firstOn[s] = NONE;
            }
        }

        void copyFrom(Trail other) {
            stretches = other.stretches;
            melt = other.melt;
            trodden = other.trodden;
            walkers = other.walkers;
            minutes = other.minutes;
            for (int s = 0; s < MOST_STRETCHES; s++) {
                depth[s] = other.depth[s];
                firstOn[s] = other.firstOn[s];
            }
            for (int w = 0; w < MOST_WALKERS; w++) {
                kind[w] = other.kind[w];
                strength[w] = other.strength[w];
                left[w] = other.left[w];
                told[w] = other.told[w];
                file[w] = other.file[w];
            }
        }

        boolean hasStretch(int number) {
            return number >= 0 && number < stretches;
        }

        boolean hasWalker(int number) {
            return number >= 0 && number < walkers;
        }

        int join(int ofKind, int withStrength) {
            if (walkers >= MOST_WALKERS) return FULL;
            int number = walkers;
            kind[number] = ofKind;
            strength[number] = withStrength;
            left[number] = withStrength;
            told[number] = NONE;
            file[number] = number;
            walkers++;
            return number;
        }

        boolean isOfKind(int walker, int asked) {
            return asked == 0 || kind[walker] == asked || (asked == STRONG && kind[walker] == LONG);
        }

        int placeOf(int walker) {
            for (int place = 0; place < walkers; place++) {
                if (file[place] == walker) return place;
            }
            return NONE;
        }

        int timesFirst(int walker) {
            int times = 0;
            for (int s = 0; s < trodden; s++) {
                if (firstOn[s] == walker) times++;
            }
            return times;
        }

        int nextPay(int walker) {
            int place = placeOf(walker);
            return trodden < stretches && place != NONE ? payAt(place, depth[trodden]) : NONE;
        }

        /** What he who goes at a place of the file pays for a stretch so deep. */
        int payAt(int place, int deep) {
            int own = kind[file[place]];
            int halvings = place;
            if (place == 0) {
                if (own == STRONG || own == LONG) halvings = 1;
            } else if (own == SHORT && kind[file[place - 1]] == LONG) {
                halvings = place - 1;
            }
            return (deep + (1 << halvings) - 1) >> halvings;
        }

        /** The next stretch is trodden; nothing happens, and it is not so, if they can't. */
        boolean treadNext() {
            if (walkers == 0 || trodden >= stretches || !reckonDues()) return false;
            int first = file[0];
            boolean firstAgain = trodden > 0 && firstOn[trodden - 1] == first;
            for (int w = 0; w < walkers; w++) left[w] -= dues[w];
            minutes += 2 + depth[trodden] / 3;
            if (firstAgain && kind[first] == PROUD) minutes += 2;
            firstOn[trodden] = first;
            trodden++;
            return true;
        }

        /** What each has to pay for the next stretch: whether each has as much. */
        private boolean reckonDues() {
            for (int place = 0; place < walkers; place++) {
                int walker = file[place];
                dues[walker] = payAt(place, depth[trodden]);
                if (left[walker] < dues[walker]) return false;
            }
            return true;
        }

        void changeFirst() {
            if (walkers == 0) return;
            int first = file[0];
            for (int place = 1; place < walkers; place++) file[place - 1] = file[place];
            file[walkers - 1] = first;
            minutes++;
        }

        int restAll() {
            int rested = 0;
            for (int w = 0; w < walkers; w++) {
                if (left[w] < strength[w]) {
                    left[w]++;
                    rested++;
                }
            }
            minutes += 5;
            return rested;
        }

        void deepenBy(int deep) {
            for (int s = trodden; s < stretches; s++) {
                depth[s] = Math.max(0, Math.min(MOST_DEPTH, depth[s] + deep));
            }
        }

        int depthAhead() {
            int sum = 0;
            for (int s = trodden; s < stretches; s++) sum += depth[s];
            return sum;
        }

        int leftOfAll() {
            int sum = 0;
            for (int w = 0; w < walkers; w++) sum += left[w];
            return sum;
        }

        int leastLeft() {
            int least = MOST_STRENGTH;
            for (int w = 0; w < walkers; w++) least = Math.min(least, left[w]);
            return least;
        }

        int toldOf() {
            int tellings = 0;
            for (int w = 0; w < walkers; w++) {
                if (told[w] != NONE) tellings++;
            }
            return tellings;
        }
    }

    /**
     * What each pays on each stretch ahead, by who is the first there. Changes only turn the file,
     * so who is the first settles all the places behind him.
     */
    private static final class Ways {
        final Trail turned = new Trail();
        /** By stretch, the first, the walker. */
        final int[] pays = new int[MOST_STRETCHES * MOST_WALKERS * MOST_WALKERS];
        /** By stretch: what is left of each ahead of it; the last row is what is left in the end. */
        final int[] leftAhead = new int[(MOST_STRETCHES + 1) * MOST_WALKERS];
        /** By walker: his place in the file as it is. */
        final int[] place = new int[MOST_WALKERS];
        int walkers = 0;
        int from = 0;
        int stretches = 0;

        void layOut(Trail trail) {
            turned.copyFrom(trail);
            walkers = trail.walkers;
            from = trail.trodden;
            stretches = trail.stretches;
            for (int w = 0; w < walkers; w++) leftAhead[from * MOST_WALKERS + w] = trail.left[w];
            for (int at = 0; at < walkers; at++) place[trail.file[at]] = at;
            for (int turns = 0; turns < walkers; turns++) {
                for (int s = from; s < stretches; s++) layOutStretch(s);
                turned.changeFirst();
            }
        }

        private void layOutStretch(int stretch) {
            int row = rowOfPays(stretch, turned.file[0]);
            for (int at = 0; at < walkers; at++) {
                pays[row + turned.file[at]] = turned.payAt(at, turned.depth[stretch]);
            }
        }

        private static int rowOfPays(int stretch, int first) {
            return (stretch * MOST_WALKERS + first) * MOST_WALKERS;
        }

        /** A stretch is trodden so: the least that is left of any behind it, NONE if they can't. */
        int leastBehind(int stretch, int first) {
            if (stretch < from || stretch >= stretches || first < 0 || first >= walkers) return NONE;
            int row = rowOfPays(stretch, first);
            int ahead = stretch * MOST_WALKERS;
            int least = MOST_STRENGTH;
            for (int w = 0; w < walkers; w++) {
                int left = leftAhead[ahead + w] - pays[row + w];
                if (left < 0) return NONE;
                leftAhead[ahead + MOST_WALKERS + w] = left;
                least = Math.min(least, left);
            }
            return least;
        }

        int changesFrom(int first, int next) {
            int turns = place[next] - place[first];
            return turns < 0 ? turns + walkers : turns;
        }
    }

    /** The firsts by which most is left, by fewest changes, first by numbers. */
    private static final class BestFirsts {
        final Ways ways = new Ways();
        final int[] tried = new int[MOST_STRETCHES];
        final int[] firsts = new int[MOST_STRETCHES];
        int least = NONE;
        int changes = NONE;

        void search(Trail trail) {
            ways.layOut(trail);
            least = NONE;
            changes = NONE;
            for (int s = 0; s < MOST_STRETCHES; s++) {
                tried[s] = NONE;
                firsts[s] = NONE;
            }
            goOn(trail.trodden, trail.file[0], trail.leastLeft(), 0);
        }

        /** On from a stretch, with him who is the first ahead of it, what is least left, changes till there. */
        private void goOn(int stretch, int first, int leastNow, int changesNow) {
            if (isBeaten(leastNow, changesNow)) return;
            if (stretch >= ways.stretches) {
                keep(leastNow, changesNow);
                return;
            }
            for (int next = 0; next < ways.walkers; next++) {
                step(stretch, next, changesNow + ways.changesFrom(first, next));
            }
        }

        private void step(int stretch, int first, int changesThen) {
            int leastThen = ways.leastBehind(stretch, first);
            if (leastThen == NONE) return;
            tried[stretch] = first;
            goOn(stretch + 1, first, leastThen, changesThen);
        }

        /** What is left only gets less and changes only more: what is beaten here is so in the end. */
        private boolean isBeaten(int leastNow, int changesNow) {
            return leastNow < least || (leastNow == least && changesNow >= changes);
        }

        private void keep(int leastThen, int changesThen) {
            least = leastThen;
            changes = changesThen;
            for (int s = 0; s < MOST_STRETCHES; s++) firsts[s] = tried[s];
        }
    }

    /** All firsts that are as told in the book: how many, and whether they agree on a stretch. */
    private static final class BookFirsts {
        final Ways ways = new Ways();
        final int[] told = new int[MOST_WALKERS];
        final int[] often = new int[MOST_WALKERS];
        final int[] tried = new int[MOST_STRETCHES];
        /** How many firsts are told of and not among those tried. */
        int owed = 0;
        int found = 0;
        int agreed = NONE;

        /** The stretch that is asked for, NONE if only the number is. */
        void search(Trail trail, int asked) {
            ways.layOut(trail);
            owed = 0;
            found = 0;
            agreed = NONE;
            for (int w = 0; w < trail.walkers; w++) {
                told[w] = trail.told[w];
                often[w] = 0;
                if (told[w] != NONE) owed += told[w];
            }
            goOn(trail.trodden, asked);
        }

        private void goOn(int stretch, int asked) {
            if (owed > ways.stretches - stretch) return;
            if (stretch >= ways.stretches) {
                if (asked >= 0 && asked < stretch) note(tried[asked]);
                found++;
                return;
            }
            for (int next = 0; next < ways.walkers; next++) step(stretch, next, asked);
        }

        /** None is tried more often than told; so, with none owed in the end, all is as told. */
        private void step(int stretch, int first, int asked) {
            if (often[first] == told[first] || ways.leastBehind(stretch, first) == NONE) return;
            int paidBack = told[first] == NONE ? 0 : 1;
            tried[stretch] = first;
            often[first]++;
            owed -= paidBack;
            goOn(stretch + 1, asked);
            owed += paidBack;
            often[first]--;
        }

        private void note(int first) {
            if (found == 0) agreed = first;
            else if (agreed != first) agreed = NONE;
        }
    }

    /** The file to set out in, so that most is left with a change behind each stretch. */
    private static final class SettingOut {
        final Trail trial = new Trail();
        final boolean[] placed = new boolean[MOST_WALKERS];
        final int[] tried = new int[MOST_WALKERS];
        final int[] file = new int[MOST_WALKERS];
        int least = NONE;

        void search(Trail trail) {
            trial.copyFrom(trail);
            least = NONE;
            for (int w = 0; w < MOST_WALKERS; w++) {
                placed[w] = false;
                file[w] = NONE;
            }
            fillFrom(0);
        }

        private void fillFrom(int place) {
            if (place >= trial.walkers) {
                tryFile();
                return;
            }
            for (int w = 0; w < trial.walkers; w++) step(place, w);
        }

        private void step(int place, int walker) {
            if (placed[walker]) return;
            placed[walker] = true;
            tried[place] = walker;
            fillFrom(place + 1);
            placed[walker] = false;
        }

        private void tryFile() {
            startAnew();
            for (int s = 0; s < trial.stretches && trial.treadNext(); s++) trial.changeFirst();
            if (trial.trodden < trial.stretches || trial.leastLeft() <= least) return;
            least = trial.leastLeft();
            for (int place = 0; place < trial.walkers; place++) file[place] = tried[place];
        }

        private void startAnew() {
            trial.trodden = 0;
            for (int w = 0; w < trial.walkers; w++) {
                trial.left[w] = trial.strength[w];
                trial.file[w] = tried[w];
            }
        }
    }
}
