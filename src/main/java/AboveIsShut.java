/** A wall of up to six drawers, each of which moves by a law of its kind; see the project's document. */
public final class AboveIsShut {

    private static final int WRONG = -1;
    private static final int NO_ROOM = -2;
    private static final int NOT_AS_IT_STANDS = -3;
    private static final int NONE = -4;
    private static final int NOTHING_HELD = -11;
    private static final int ANOTHER_KIND = -12;
    private static final int NO_SUCH_PLACE = -13;
    private static final int BELOW_NOTHING = -14;
    private static final int NO_FAILURE = -15;

    private static final int MOST_DRAWERS = 6;
    private static final int MOST_STANDINGS = 64;
    private static final int FIGURES = 10;
    private static final int SHELVES = 8;
    private static final int SORTS = 3;
    private static final int MOST_ELEMENTS = 100;
    private static final int MOST_TURNS = 5;
    private static final int MOST_SEEDED = 60;
    private static final int WITHOUT_SIGN = 0x7fffffff;

    private static final int DRAWER = 0;
    private static final int FREE = 1;
    private static final int STUCK = 2;
    private static final int UNDER = 3;
    private static final int OVER = 4;
    private static final int LOOSE = 5;
    private static final int ODD = 6;
    private static final int LATCH = 7;
    private static final int KINDS = 8;

    /** What a text wants next, byte by byte. */
    private static final int WANTS_LETTER = 0;
    private static final int WANTS_KIND = 1;
    private static final int WANTS_DIGIT = 2;
    private static final int WANTS_END = 3;
    private static final int WANTS_NOTHING_SUCH = 4;

    private final Wall wall = new Wall();
    private final Wall image = new Wall();
    /** The wall on which all is done that is only done in mind. */
    private final Wall mind = new Wall();
    private final Ways ways = new Ways();
    private final Drawer[] keptDrawers = new Drawer[SHELVES];
    private final Row[] keptRows = new Row[SHELVES];
    private final int[] kindsThatMay = new int[MOST_STANDINGS];
    private boolean imageTaken = false;

    public AboveIsShut() {
    }

    // ---- walls

    public int wall(int d) {
        Row text = bytesOn(d);
        if (text == null) {
            return lacking(d);
        }
        int broken = brokenAt(text);
        if (broken >= 0) {
            return fault(1, broken);
        }
        // In mind first, because with a fault nothing of the text may come.
        mind.takeFrom(wall);
        int statements = 0;
        int begin = 0;
        for (int i = 0; i < text.size; i++) {
            if (text.valueAt(i) == ';') {
                if (!carriedOut(text, begin)) {
                    return fault(2, begin);
                }
                statements++;
                begin = i + 1;
            }
        }
        wall.takeFrom(mind);
        return statements;
    }

    public int drawer(int drawer, int what) {
        Drawer one = wall.drawerAt(drawer);
        if (one == null) {
            return WRONG;
        }
        switch (what) {
            case 0:
                return one.kind();
            case 1:
                return one.figure;
            case 2:
                return isOpen(wall.open, drawer) ? 1 : 0;
            case 3:
                return wall.may(drawer, wall.open) ? 1 : 0;
            default:
                return WRONG;
        }
    }

    public int comes(int d) {
        Drawer kept = drawerOn(d);
        if (kept == null) {
            return lacking(d);
        }
        int number = wall.size;
        return wall.add(kept) ? number : NO_ROOM;
    }

    public int changes(int d, int drawer) {
        Drawer before = wall.drawerAt(drawer);
        if (before == null) {
            return WRONG;
        }
        Drawer kept = drawerOn(d);
        if (kept == null) {
            return lacking(d);
        }
        wall.replace(drawer, kept);
        return before.kind();
    }

    public int pull(int drawer) {
        if (wall.drawerAt(drawer) == null) {
            return WRONG;
        }
        return wall.pulled(drawer) ? wall.open : NOT_AS_IT_STANDS;
    }

    public int standing(int what) {
        switch (what) {
            case 0:
                return wall.open;
            case 1:
                return wall.mayBits(wall.open);
            default:
                return WRONG;
        }
    }

    public int stand(int standing) {
        if (!wall.canStand(standing)) {
            return WRONG;
        }
        int before = wall.open;
        wall.open = standing;
        return before;
    }

    // ---- ways of pulls

    public int fewest(int from, int to) {
        if (!wall.canStand(from) || !wall.canStand(to)) {
            return WRONG;
        }
        ways.learn(wall);
        return ways.pullsTo(from, to);
    }

    public int first(int from, int to) {
        if (!wall.canStand(from) || !wall.canStand(to)) {
            return WRONG;
        }
        ways.learn(wall);
        int whole = ways.pullsTo(from, to);
        if (whole <= 0) {
            return NONE;
        }
        for (int drawer = 0; drawer < wall.size; drawer++) {
            if (wall.may(drawer, from) && ways.pullsTo(turned(from, drawer), to) == whole - 1) {
                return drawer;
            }
        }
        return NONE;
    }

    public int far(int what) {
        if (what < 0 || what > 2) {
            return WRONG;
        }
        ways.learn(wall);
        ways.spread(wall.open);
        if (what == 0) {
            return ways.reached;
        }
        return what == 1 ? ways.mostPulls() : ways.leastFarthest();
    }

    public int never() {
        ways.learn(wall);
        ways.spread(wall.open);
        return wall.allBits() & ~ways.everMay();
    }

    public int place(int standing) {
        if (!wall.canStand(standing)) {
            return WRONG;
        }
        if (!wall.isJoiners()) {
            return NOT_AS_IT_STANDS;
        }
        ways.learn(wall);
        return ways.pullsTo(wall.allBits(), standing);
    }

    public int at(int n) {
        if (n < 0) {
            return WRONG;
        }
        if (!wall.isJoiners()) {
            return NOT_AS_IT_STANDS;
        }
        ways.learn(wall);
        ways.spread(wall.allBits());
        return ways.standingBehind(n);
    }

    // ---- to have had, to free

    public int had(int drawers) {
        if (!wall.canStand(drawers)) {
            return WRONG;
        }
        ways.learn(wall);
        return ways.pullsToHave(wall.open, drawers);
    }

    public int freed(int drawers) {
        if (!wall.canStand(drawers)) {
            return WRONG;
        }
        Drawer free = made(FREE, 0);
        for (int many = 0; many <= wall.size; many++) {
            for (int set = 0; set <= wall.allBits(); set++) {
                if (Integer.bitCount(set) == many) {
                    freeInMind(set, free);
                    ways.learn(mind);
                    if (ways.pullsToHave(mind.open, drawers) >= 0) {
                        return set;
                    }
                }
            }
        }
        return NONE;
    }

    public int longest(int drawer, int figure, int other, int what) {
        if (!wall.has(drawer) || !isFigure(figure) || !wall.has(other) || what < 0 || what > 1) {
            return WRONG;
        }
        int slowest = NONE;
        int most = NONE;
        for (int kind = 0; kind < KINDS; kind++) {
            mind.takeFrom(wall);
            mind.replace(drawer, made(kind, figure));
            ways.learn(mind);
            int pulls = ways.pullsToHave(mind.open, 1 << other);
            if (pulls > most) {
                most = pulls;
                slowest = kind;
            }
        }
        return what == 0 ? slowest : most;
    }

    // ---- laws that fit, games

    public int tried(int d, int drawer, int figure) {
        if (!isShelf(d) || !wall.has(drawer) || !isFigure(figure)) {
            return WRONG;
        }
        Row trials = bytesOn(d);
        if (trials == null) {
            return lacking(d);
        }
        if (!areTrials(trials)) {
            return NO_SUCH_PLACE;
        }
        int fitting = 0;
        for (int kind = 0; kind < KINDS; kind++) {
            mind.takeFrom(wall);
            mind.replace(drawer, made(kind, figure));
            if (fits(trials)) {
                fitting |= 1 << kind;
            }
        }
        return fitting;
    }

    public int next(int drawer, int figure, int kinds, int what) {
        if (!wall.has(drawer) || !isFigure(figure) || kinds < 1 || kinds >= 1 << KINDS || what < 0 || what > 1) {
            return WRONG;
        }
        countThoseThatMay(drawer, figure, kinds);
        int all = Integer.bitCount(kinds);
        int best = 0;
        int least = all + 1;
        for (int standing = 0; standing <= wall.allBits() && standing < MOST_STANDINGS; standing++) {
            int greater = Math.max(kindsThatMay[standing], all - kindsThatMay[standing]);
            if (greater < least) {
                least = greater;
                best = standing;
            }
        }
        return what == 0 ? best : least;
    }

    public int game(int drawer, int n) {
        if (!wall.has(drawer) || n < 0 || n > MOST_TURNS) {
            return WRONG;
        }
        long won = 0;
        for (int standing = 0; standing <= wall.allBits(); standing++) {
            if (isOpen(standing, drawer)) {
                won |= 1L << standing;
            }
        }
        for (int turn = n - 1; turn >= 0; turn--) {
            won = wonBefore(won, turn % 2 == 0);
        }
        return isAmong(won, wall.open) ? 1 : 0;
    }

    // ---- told pulls, seeds

    public int run(int d, int what) {
        if (!isShelf(d) || what < 0 || what > 1) {
            return WRONG;
        }
        Row told = bytesOn(d);
        if (told == null) {
            return lacking(d);
        }
        for (int i = 0; i < told.size; i++) {
            if (!wall.has(told.valueAt(i))) {
                return NO_SUCH_PLACE;
            }
        }
        mind.takeFrom(wall);
        int pulled = 0;
        for (int i = 0; i < told.size; i++) {
            if (mind.pulled(told.valueAt(i))) {
                pulled++;
            }
        }
        return what == 0 ? mind.open : pulled;
    }

    public int seeded(int n, int z, int what) {
        if (n < 1 || n > MOST_SEEDED || what < 0 || what > 1) {
            return WRONG;
        }
        int drawers = wall.size;
        if (drawers <= 0) {
            return NOT_AS_IT_STANDS;
        }
        mind.takeFrom(wall);
        int seed = z;
        int pulled = 0;
        for (int i = 0; i < n; i++) {
            seed = seed * 1103515245 + 12345;
            if (mind.pulled((seed & WITHOUT_SIGN) / 65536 % drawers)) {
                pulled++;
            }
        }
        return what == 0 ? mind.open : pulled;
    }

    public int judge(int d) {
        Row told = rowOn(d);
        if (told == null) {
            return lacking(d);
        }
        mind.takeFrom(wall);
        for (int i = 0; i < told.size; i++) {
            if (!mind.pulled(told.valueAt(i))) {
                return i;
            }
        }
        return NONE;
    }

    // ---- the image, what is told

    public int image() {
        image.takeFrom(wall);
        imageTaken = true;
        return wall.open;
    }

    public int restore() {
        if (!imageTaken) {
            return NOT_AS_IT_STANDS;
        }
        wall.takeFrom(image);
        return wall.open;
    }

    public int count(int what) {
        switch (what) {
            case 0:
                return wall.size;
            case 1:
                return Integer.bitCount(wall.open);
            case 2:
                return Integer.bitCount(wall.mayBits(wall.open));
            case 3:
                return wall.howManyOf(STUCK);
            default:
                return WRONG;
        }
    }

    // ---- shelves

    public int keep(int d, int what, int k, int figure) {
        if (!isShelf(d) || what < 0 || what > 1) {
            return WRONG;
        }
        if (what == 1 && (k < 0 || k >= KINDS || !isFigure(figure))) {
            return WRONG;
        }
        keptDrawers[d] = what == 1 ? made(k, figure) : null;
        keptRows[d] = null;
        return 0;
    }

    public int row(int d, int sort, int n) {
        if (!isShelf(d) || sort < 0 || sort >= SORTS || n > MOST_ELEMENTS) {
            return WRONG;
        }
        if (n < 0) {
            return BELOW_NOTHING;
        }
        keptRows[d] = new Row(sort, n);
        keptDrawers[d] = null;
        return 0;
    }

    public int put(int d, int i, int v) {
        Row held = rowOn(d);
        if (held == null) {
            return lacking(d);
        }
        if (!held.hasPlace(i)) {
            return NO_SUCH_PLACE;
        }
        held.become(i, v);
        return 0;
    }

    public long element(int d, int i) throws IllegalArgumentException, IllegalStateException {
        if (!isShelf(d)) {
            throw new IllegalArgumentException("no such shelf");
        }
        Row held = rowOn(d);
        if (held == null) {
            throw new IllegalStateException("no row");
        }
        if (!held.hasPlace(i)) {
            throw new IllegalStateException("no such place");
        }
        return held.valueAt(i);
    }

    public int copy(int d, int i, int e, int j, int n) {
        if (!isShelf(d) || !isShelf(e)) {
            return WRONG;
        }
        if (holdsNothing(d) || holdsNothing(e)) {
            return NOTHING_HELD;
        }
        Row from = rowOn(d);
        Row to = rowOn(e);
        if (from == null || to == null || from.sort != to.sort) {
            return ANOTHER_KIND;
        }
        if (!from.hasPlaces(i, n) || !to.hasPlaces(j, n)) {
            return NO_SUCH_PLACE;
        }
        System.arraycopy(from.elements, i, to.elements, j, n);
        return n;
    }

    public int cost(int d) {
        Drawer kept = drawerOn(d);
        return kept == null ? lacking(d) : kept.price();
    }

    public int toss(int d) {
        Drawer kept = drawerOn(d);
        if (kept == null) {
            return lacking(d);
        }
        try {
            kept.fail();
        } catch (IllegalStateException failure) {
            return kept.figure;
        } catch (IllegalArgumentException failureOver) {
            return kept.figure + 100;
        } catch (UnsupportedOperationException failureLoose) {
            return kept.price() + 200;
        }
        return NO_FAILURE;
    }

    // What the calls above share.

    private static boolean isShelf(int d) {
        return d >= 0 && d < SHELVES;
    }

    private static boolean isFigure(int figure) {
        return figure >= 0 && figure < FIGURES;
    }

    private static boolean isOpen(int standing, int drawer) {
        return drawer >= 0 && drawer < MOST_DRAWERS && (standing >> drawer & 1) == 1;
    }

    private static int turned(int standing, int drawer) {
        return standing ^ 1 << drawer;
    }

    private static boolean isAmong(long standings, int standing) {
        return (standings >> standing & 1L) == 1L;
    }

    private static Drawer made(int kind, int figure) {
        switch (kind) {
            case FREE:
                return new Free(figure);
            case STUCK:
                return new Stuck(figure);
            case UNDER:
                return new Under(figure);
            case OVER:
                return new Over(figure);
            case LOOSE:
                return new Loose(figure);
            case ODD:
                return new Odd(figure);
            case LATCH:
                return new Latch(figure);
            default:
                return new Drawer(figure);
        }
    }

    private Drawer drawerOn(int d) {
        return isShelf(d) ? keptDrawers[d] : null;
    }

    private Row rowOn(int d) {
        return isShelf(d) ? keptRows[d] : null;
    }

    private Row bytesOn(int d) {
        Row held = rowOn(d);
        return held != null && held.sort == 0 ? held : null;
    }

    private boolean holdsNothing(int d) {
        return drawerOn(d) == null && rowOn(d) == null;
    }

    /** The refusal for a shelf that does not hold what is wanted of it. */
    private int lacking(int d) {
        if (!isShelf(d)) {
            return WRONG;
        }
        return holdsNothing(d) ? NOTHING_HELD : ANOTHER_KIND;
    }

    private static int fault(int kind, int place) {
        return -1000 * kind - place;
    }

    private static int brokenAt(Row text) {
        int wanted = WANTS_LETTER;
        for (int i = 0; i < text.size; i++) {
            wanted = wantedBehind(wanted, text.valueAt(i));
            if (wanted == WANTS_NOTHING_SUCH) {
                return i;
            }
        }
        return wanted == WANTS_LETTER && text.size > 0 ? NONE : text.size;
    }

    private static int wantedBehind(int wanted, int sign) {
        switch (wanted) {
            case WANTS_LETTER:
                if (sign == 'd') {
                    return WANTS_KIND;
                }
                return sign == 'o' || sign == 's' || sign == 'p' ? WANTS_DIGIT : WANTS_NOTHING_SUCH;
            case WANTS_KIND:
                return isDigit(sign) ? WANTS_DIGIT : WANTS_NOTHING_SUCH;
            case WANTS_DIGIT:
                return isDigit(sign) ? WANTS_END : WANTS_NOTHING_SUCH;
            default:
                return sign == ';' ? WANTS_LETTER : WANTS_NOTHING_SUCH;
        }
    }

    private static boolean isDigit(int sign) {
        return sign >= '0' && sign <= '9';
    }

    private boolean carriedOut(Row text, int begin) {
        int number = text.valueAt(begin + 1) - '0';
        switch (text.valueAt(begin)) {
            case 'd':
                return number < KINDS && mind.add(made(number, text.valueAt(begin + 2) - '0'));
            case 'o':
                return mind.becomes(number, true);
            case 's':
                return mind.becomes(number, false);
            default:
                return mind.pulled(number);
        }
    }

    private void freeInMind(int set, Drawer free) {
        mind.takeFrom(wall);
        for (int drawer = 0; drawer < wall.size; drawer++) {
            if (isOpen(set, drawer)) {
                mind.replace(drawer, free);
            }
        }
    }

    private boolean areTrials(Row trials) {
        if (trials.size % 2 != 0) {
            return false;
        }
        for (int i = 0; i < trials.size; i += 2) {
            int moved = trials.valueAt(i + 1);
            if (!wall.has(trials.valueAt(i)) || moved < 0 || moved > 1) {
                return false;
            }
        }
        return true;
    }

    private boolean fits(Row trials) {
        for (int i = 0; i < trials.size; i += 2) {
            boolean moved = trials.valueAt(i + 1) == 1;
            if (mind.pulled(trials.valueAt(i)) != moved) {
                return false;
            }
        }
        return true;
    }

    /** One law a kind is made here, not one a kind and standing, because all that calls make is kept count of. */
    private void countThoseThatMay(int drawer, int figure, int kinds) {
        for (int standing = 0; standing < MOST_STANDINGS; standing++) {
            kindsThatMay[standing] = 0;
        }
        for (int kind = 0; kind < KINDS; kind++) {
            if ((kinds >> kind & 1) == 1) {
                Drawer law = made(kind, figure);
                for (int standing = 0; standing < MOST_STANDINGS; standing++) {
                    kindsThatMay[standing] += law.moves(drawer, standing) ? 1 : 0;
                }
            }
        }
    }

    /** The standings from which the first wins, if behind one turn more those told are won. */
    private long wonBefore(long won, boolean firstPulls) {
        long before = 0;
        for (int standing = 0; standing <= wall.allBits(); standing++) {
            boolean wins = isAmong(won, standing);
            for (int drawer = 0; drawer < wall.size; drawer++) {
                if (wall.may(drawer, standing)) {
                    boolean then = isAmong(won, turned(standing, drawer));
                    wins = firstPulls ? wins || then : wins && then;
                }
            }
            if (wins) {
                before |= 1L << standing;
            }
        }
        return before;
    }

    /** The drawers, and which of them are open. */
    private static final class Wall {
        private final Drawer[] drawers = new Drawer[MOST_DRAWERS];
        int size = 0;
        int open = 0;

        void takeFrom(Wall other) {
            for (int drawer = 0; drawer < MOST_DRAWERS; drawer++) {
                drawers[drawer] = other.drawers[drawer];
            }
            size = other.size;
            open = other.open;
        }

        boolean has(int drawer) {
            return drawer >= 0 && drawer < size;
        }

        Drawer drawerAt(int drawer) {
            return has(drawer) && drawer < MOST_DRAWERS ? drawers[drawer] : null;
        }

        boolean canStand(int standing) {
            return standing >= 0 && standing <= allBits();
        }

        int allBits() {
            return (1 << size) - 1;
        }

        boolean add(Drawer more) {
            if (size < 0 || size >= MOST_DRAWERS) {
                return false;
            }
            drawers[size] = more;
            size++;
            return true;
        }

        void replace(int drawer, Drawer another) {
            if (has(drawer) && drawer < MOST_DRAWERS) {
                drawers[drawer] = another;
            }
        }

        boolean may(int drawer, int standing) {
            Drawer one = drawerAt(drawer);
            return one != null && one.moves(drawer, standing);
        }

        int mayBits(int standing) {
            int bits = 0;
            for (int drawer = 0; drawer < size; drawer++) {
                if (may(drawer, standing)) {
                    bits |= 1 << drawer;
                }
            }
            return bits;
        }

        boolean pulled(int drawer) {
            if (!may(drawer, open)) {
                return false;
            }
            open = turned(open, drawer);
            return true;
        }

        boolean becomes(int drawer, boolean opened) {
            if (!has(drawer)) {
                return false;
            }
            open = opened ? open | 1 << drawer : open & ~(1 << drawer);
            return true;
        }

        int howManyOf(int kind) {
            int many = 0;
            for (int drawer = 0; drawer < size; drawer++) {
                Drawer one = drawerAt(drawer);
                if (one != null && one.kind() == kind) {
                    many++;
                }
            }
            return many;
        }

        boolean isJoiners() {
            return howManyOf(DRAWER) == size;
        }
    }

    /**
     * Where one can come by pulls, the nearest ahead of the farther. A stop is a standing together with the told
     * drawers that have been open on the way to it.
     */
    private static final class Ways {
        /** Each drawer is open and was, shut and was open, or shut and never was: three to the sixth. */
        private static final int MOST_STOPS = 729;

        private final int[] mayByStanding = new int[MOST_STANDINGS];
        /** By the drawers that have been open: the standings met so, as bits. */
        private final long[] met = new long[MOST_STANDINGS];
        private final int[] standings = new int[MOST_STOPS];
        private final int[] seen = new int[MOST_STOPS];
        private final int[] pulls = new int[MOST_STOPS];
        int reached = 0;

        void learn(Wall laws) {
            for (int standing = 0; standing < MOST_STANDINGS; standing++) {
                mayByStanding[standing] = laws.canStand(standing) ? laws.mayBits(standing) : 0;
            }
        }

        void spread(int from) {
            begin(from, 0);
            for (int stop = 0; stop < reached && stop < MOST_STOPS; stop++) {
                goOn(stop, 0);
            }
        }

        int pullsTo(int from, int to) {
            begin(from, 0);
            for (int stop = 0; stop < reached && stop < MOST_STOPS; stop++) {
                if (standings[stop] == to) {
                    return pulls[stop];
                }
                goOn(stop, 0);
            }
            return NONE;
        }

        int pullsToHave(int from, int told) {
            begin(from, told);
            for (int stop = 0; stop < reached && stop < MOST_STOPS; stop++) {
                if (seen[stop] == told) {
                    return pulls[stop];
                }
                goOn(stop, told);
            }
            return NONE;
        }

        int mostPulls() {
            return reached > 0 && reached <= MOST_STOPS ? pulls[reached - 1] : 0;
        }

        int leastFarthest() {
            int most = mostPulls();
            int least = MOST_STANDINGS;
            for (int stop = 0; stop < reached && stop < MOST_STOPS; stop++) {
                if (pulls[stop] == most) {
                    least = Math.min(least, standings[stop]);
                }
            }
            return least;
        }

        int standingBehind(int n) {
            for (int stop = 0; stop < reached && stop < MOST_STOPS; stop++) {
                if (pulls[stop] == n) {
                    return standings[stop];
                }
            }
            return NONE;
        }

        int everMay() {
            int bits = 0;
            for (int stop = 0; stop < reached && stop < MOST_STOPS; stop++) {
                bits |= mayFrom(standings[stop]);
            }
            return bits;
        }

        private int mayFrom(int standing) {
            return standing >= 0 && standing < MOST_STANDINGS ? mayByStanding[standing] : 0;
        }

        private void begin(int from, int told) {
            for (int had = 0; had < MOST_STANDINGS; had++) {
                met[had] = 0;
            }
            reached = 0;
            meet(from, from & told, 0);
        }

        private void goOn(int stop, int told) {
            if (stop < 0 || stop >= MOST_STOPS) {
                return;
            }
            int may = mayFrom(standings[stop]);
            for (int drawer = 0; drawer < MOST_DRAWERS; drawer++) {
                if ((may >> drawer & 1) == 1) {
                    int then = turned(standings[stop], drawer);
                    meet(then, seen[stop] | then & told, pulls[stop] + 1);
                }
            }
        }

        private void meet(int standing, int had, int pulled) {
            if (standing < 0 || standing >= MOST_STANDINGS || had < 0 || had >= MOST_STANDINGS) {
                return;
            }
            if (isAmong(met[had], standing) || reached < 0 || reached >= MOST_STOPS) {
                return;
            }
            met[had] |= 1L << standing;
            standings[reached] = standing;
            seen[reached] = had;
            pulls[reached] = pulled;
            reached++;
        }
    }

    /** A row of bytes, shorts or ints. */
    private static final class Row {
        final int sort;
        final int size;
        final int[] elements;

        Row(int sort, int size) {
            this.sort = sort;
            this.size = Math.max(0, size);
            this.elements = new int[Math.max(0, size)];
        }

        boolean hasPlace(int i) {
            return i >= 0 && i < elements.length;
        }

        /** Subtracts instead of adding, so that no sum leaves the ints. */
        boolean hasPlaces(int i, int n) {
            return i >= 0 && n >= 0 && i <= elements.length && n <= elements.length - i;
        }

        int valueAt(int i) {
            return hasPlace(i) ? elements[i] : 0;
        }

        void become(int i, int v) {
            if (hasPlace(i)) {
                elements[i] = lowestBits(v);
            }
        }

        private int lowestBits(int v) {
            if (sort == 0) {
                return (byte) v;
            }
            return sort == 1 ? (short) v : v;
        }
    }

    /** The joiner's: it moves if the one above is shut and all above that one are open. */
    private static class Drawer {
        final int figure;

        Drawer(int figure) {
            this.figure = figure;
        }

        int kind() {
            return DRAWER;
        }

        boolean moves(int own, int standing) {
            if (own <= 0) {
                return true;
            }
            int aboveThatOne = (1 << own - 1) - 1;
            return !isOpen(standing, own - 1) && (standing & aboveThatOne) == aboveThatOne;
        }

        int price() {
            return 4;
        }

        void fail() {
            if (figure != 0) {
                throw new IllegalStateException("a drawer's failure");
            }
        }
    }

    private static class Free extends Drawer {
        Free(int figure) {
            super(figure);
        }

        int kind() {
            return FREE;
        }

        boolean moves(int own, int standing) {
            return true;
        }

        int price() {
            return super.price() - 1;
        }

        /** Only those of this very kind have no failure; those under it have a drawer's. */
        void fail() {
            if (kind() != FREE) {
                super.fail();
            }
        }
    }

    private static final class Stuck extends Drawer {
        Stuck(int figure) {
            super(figure);
        }

        int kind() {
            return STUCK;
        }

        boolean moves(int own, int standing) {
            return false;
        }

        int price() {
            return super.price() + figure;
        }
    }

    private static class Under extends Free {
        Under(int figure) {
            super(figure);
        }

        int kind() {
            return UNDER;
        }

        boolean moves(int own, int standing) {
            return own <= 0 || !isOpen(standing, own - 1);
        }

        int price() {
            return 2 * super.price();
        }
    }

    private static final class Over extends Drawer {
        Over(int figure) {
            super(figure);
        }

        int kind() {
            return OVER;
        }

        /** A standing has no bit for a drawer that is not there, so such a one counts as shut. */
        boolean moves(int own, int standing) {
            return super.moves(own, standing) && !isOpen(standing, figure);
        }

        int price() {
            return super.price() * (figure + 1);
        }

        void fail() {
            if (figure != 0) {
                throw new IllegalArgumentException("an over one's failure");
            }
        }
    }

    private static final class Loose extends Under {
        Loose(int figure) {
            super(figure);
        }

        int kind() {
            return LOOSE;
        }

        boolean moves(int own, int standing) {
            return super.moves(own, standing) || Integer.bitCount(standing) >= figure;
        }

        int price() {
            return super.price() - figure;
        }

        void fail() {
            if (figure != 0) {
                throw new UnsupportedOperationException("a loose one's failure");
            }
        }
    }

    private static final class Odd extends Free {
        Odd(int figure) {
            super(figure);
        }

        int kind() {
            return ODD;
        }

        boolean moves(int own, int standing) {
            int others = standing & ~(1 << own);
            return (Integer.bitCount(others) + figure) % 2 == 0;
        }

        int price() {
            return super.price() + 5;
        }
    }

    private static final class Latch extends Drawer {
        Latch(int figure) {
            super(figure);
        }

        int kind() {
            return LATCH;
        }

        boolean moves(int own, int standing) {
            return isOpen(standing, own) || super.moves(own, standing);
        }
    }
}
