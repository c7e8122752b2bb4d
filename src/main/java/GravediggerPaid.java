/** A churchyard whose gravedigger is paid by the grief: see README.md and the document. */
public final class GravediggerPaid {
    private static final int NONE = -9;
    private static final int NOBODY = -1;
    private static final int OTHER = -2;
    private static final int STATE = -3;
    private static final int BELOW = -4;
    private static final int ROOM = -6;
    private static final int REFUSED_INT = 1000000000;
    private static final long REFUSED_LONG = 4000000000000000000L;
    private static final int MOST_DAYS = 60;
    private static final int MOST_DAYS_WEIGHED = 30;
    private static final int MOST_INCHES_ASKED = 99;
    private static final int ROW_ROOM = 16;

    private final Churchyard now;
    private final Churchyard draft;
    private final Churchyard picture;
    private final Thought thought;
    private final Letters letters;
    private final Seating seating;
    private final int[] numbers;
    private final int[] refusals;
    private int numbersSize;
    private boolean pictureTaken;

    public GravediggerPaid() {
        Churchyard empty = new Churchyard();
        now = empty;
        draft = new Churchyard();
        picture = new Churchyard();
        thought = new Thought(empty);
        letters = new Letters();
        seating = new Seating();
        numbers = new int[ROW_ROOM];
        refusals = new int[7];
        numbersSize = 0;
        pictureTaken = false;
    }

    public int letter(int c) {
        if (c < 0) {
            return refuse(BELOW);
        }
        if (c > 255 || letters.isFull()) {
            return refuse(ROOM);
        }
        return letters.add(c);
    }

    public int yard() {
        draft.become(now);
        int answer = letters.tellTo(draft);
        letters.forget();
        if (answer >= 0) {
            now.become(draft);
        }
        return answer;
    }

    public int grave(int grave, int what) {
        if (!now.hasGrave(grave)) {
            return refuse(NOBODY);
        }
        switch (what) {
            case 0:
                return now.hardness(grave);
            case 1:
                return now.depth(grave);
            case 2:
                return now.wetness(grave);
            case 3:
                return now.payOf(grave);
            case 4:
                return now.weepingAt(grave);
            case 5:
                return now.daysToFoot(grave);
            default:
                return refuse(OTHER);
        }
    }

    public int mourner(int mourner, int what) {
        if (!now.hasMourner(mourner)) {
            return refuse(NOBODY);
        }
        switch (what) {
            case 0:
                return now.kindOf(mourner);
            case 1:
                return now.figureOf(mourner);
            case 2:
                return now.griefOf(mourner);
            case 3:
                return now.placeOf(mourner);
            case 4:
                return now.weeps(mourner);
            default:
                return refuse(OTHER);
        }
    }

    public int goes(int mourner, int grave) {
        if (!now.hasMourner(mourner) || !now.hasGrave(grave)) {
            return refuse(NOBODY);
        }
        int before = now.placeOf(mourner);
        now.place(mourner, grave);
        return before;
    }

    public int leaves(int mourner) {
        if (!now.hasMourner(mourner)) {
            return refuse(NOBODY);
        }
        int before = now.placeOf(mourner);
        if (before == NONE) {
            return refuse(STATE);
        }
        now.place(mourner, NONE);
        return before;
    }

    public int hears(int mourner) {
        if (!now.hasMourner(mourner)) {
            return refuse(NOBODY);
        }
        now.inform(mourner);
        return now.griefOf(mourner);
    }

    public int grieves(int mourner, int v) {
        if (!now.hasMourner(mourner)) {
            return refuse(NOBODY);
        }
        int fault = faultOfRange(v, 0, Churchyard.MOST_GRIEF);
        if (fault != 0) {
            return refuse(fault);
        }
        int before = now.griefOf(mourner);
        now.setGrief(mourner, v);
        return before;
    }

    public int hardens(int grave, int v) {
        if (!now.hasGrave(grave)) {
            return refuse(NOBODY);
        }
        int fault = faultOfRange(v, 0, 9);
        if (fault != 0) {
            return refuse(fault);
        }
        int before = now.hardness(grave);
        now.setHardness(grave, v);
        return before;
    }

    public int turn(int mourner, int kind, int figure) {
        if (!now.hasMourner(mourner)) {
            return refuse(NOBODY);
        }
        if (kind < 0 || kind >= Kinds.HOW_MANY) {
            return refuse(OTHER);
        }
        int fault = faultOfRange(figure, 0, 9);
        if (fault != 0) {
            return refuse(fault);
        }
        int before = 10 * now.kindOf(mourner) + now.figureOf(mourner);
        now.setKind(mourner, kind);
        now.setFigure(mourner, figure);
        return before;
    }

    public int days(int n) {
        int fault = faultOfRange(n, 1, MOST_DAYS);
        if (fault != 0) {
            return refuse(fault);
        }
        if (now.today() + n > Churchyard.LAST_DAY) {
            return refuse(ROOM);
        }
        now.passDays(n);
        return now.allPay();
    }

    public int graveThen(int grave, int n, int what) {
        if (!now.hasGrave(grave)) {
            return refuse(NOBODY);
        }
        int fault = faultOfRange(n, 0, MOST_DAYS);
        if (fault != 0) {
            return refuse(fault);
        }
        if (what < 0 || what > 1) {
            return refuse(OTHER);
        }
        Churchyard later = thought.after(n);
        return what == 0 ? later.depth(grave) : later.wetness(grave);
    }

    public int griefThen(int mourner, int n) {
        if (!now.hasMourner(mourner)) {
            return refuse(NOBODY);
        }
        int fault = faultOfRange(n, 0, MOST_DAYS);
        if (fault != 0) {
            return refuse(fault);
        }
        return thought.after(n).griefOf(mourner);
    }

    public int payThen(int n) {
        int fault = faultOfRange(n, 0, MOST_DAYS);
        if (fault != 0) {
            return refuse(fault);
        }
        return thought.after(n).allPay();
    }

    public int deep(int grave, int v) {
        if (!now.hasGrave(grave)) {
            return refuse(NOBODY);
        }
        int fault = faultOfRange(v, 0, MOST_INCHES_ASKED);
        if (fault != 0) {
            return refuse(fault);
        }
        return thought.daysTillDeep(grave, v, MOST_DAYS);
    }

    public int first(int what) {
        switch (what) {
            case 0:
                return thought.graveFirstFootDeeper(MOST_DAYS);
            case 1:
                return thought.daysTillFootDeeper(MOST_DAYS);
            case 2:
                return thought.daysTillDry(MOST_DAYS);
            case 3:
                return now.driest();
            case 4:
                return now.deepest();
            default:
                return refuse(OTHER);
        }
    }

    public int seat(int mourner) {
        if (mourner != -1 && !now.hasMourner(mourner)) {
            return refuse(NOBODY);
        }
        if (now.graveCount() == 0) {
            return mourner == -1 ? 0 : NONE;
        }
        seating.weigh(now);
        return mourner == -1 ? seating.inches() : seating.graveOf(mourner);
    }

    public int fewest(int grave, int v, int n) {
        if (!now.hasGrave(grave)) {
            return refuse(NOBODY);
        }
        if (v < 0 || n < 0) {
            return refuse(BELOW);
        }
        if (v > MOST_INCHES_ASKED || n > MOST_DAYS_WEIGHED) {
            return refuse(ROOM);
        }
        return thought.fewestFor(grave, v, n);
    }

    public int tell(int n) {
        int fault = faultOfRange(n, 1, MOST_DAYS_WEIGHED);
        if (fault != 0) {
            return refuse(fault);
        }
        return thought.whomToTell(n);
    }

    public int send(int n, int what) {
        int fault = faultOfRange(n, 1, MOST_DAYS_WEIGHED);
        if (fault != 0) {
            return refuse(fault);
        }
        if (what < 0 || what > 1) {
            return refuse(OTHER);
        }
        int who = thought.whomToSend(n);
        if (who == NONE || what == 0) {
            return who;
        }
        return thought.inchesLostWithout(who, n);
    }

    public int bring(int mourner, int n) {
        if (!now.hasMourner(mourner)) {
            return refuse(NOBODY);
        }
        int fault = faultOfRange(n, 0, MOST_DAYS_WEIGHED);
        if (fault != 0) {
            return refuse(fault);
        }
        return thought.whereToBring(mourner, n);
    }

    public int change(int n) {
        int fault = faultOfRange(n, 0, MOST_DAYS_WEIGHED);
        if (fault != 0) {
            return refuse(fault);
        }
        return thought.whichToChange(n);
    }

    public int onion(int mourner, int n) {
        if (!now.hasMourner(mourner)) {
            return REFUSED_INT - refuse(NOBODY);
        }
        int fault = faultOfRange(n, 1, MOST_DAYS_WEIGHED);
        if (fault != 0) {
            return REFUSED_INT - refuse(fault);
        }
        return thought.inchesMoreAsOnion(mourner, n);
    }

    public int tears() {
        return now.weepsMost();
    }

    public int alone(int what) {
        switch (what) {
            case 0:
                return now.gravesWithMourners(1);
            case 1:
                return now.gravesWithMourners(0);
            case 2:
                return now.deepOnes();
            default:
                return refuse(OTHER);
        }
    }

    public int level() {
        if (now.graveCount() == 0) {
            return 0;
        }
        return now.depth(now.deepest()) - now.depth(now.driest());
    }

    public int two(int a, int b, int n) {
        if (!now.hasMourner(a) || !now.hasMourner(b) || a == b) {
            return refuse(NOBODY);
        }
        int fault = faultOfRange(n, 1, MOST_DAYS_WEIGHED);
        if (fault != 0) {
            return refuse(fault);
        }
        if (now.placeOf(a) == NONE || now.placeOf(b) == NONE) {
            return refuse(STATE);
        }
        return thought.firstCalmPair(a, b, n);
    }

    public long share(int mourner, int part) {
        if (!now.hasMourner(mourner)) {
            return REFUSED_LONG - refuse(NOBODY);
        }
        if (part < 0 || part > 1) {
            return REFUSED_LONG - refuse(OTHER);
        }
        int where = now.placeOf(mourner);
        if (where == NONE) {
            return REFUSED_LONG - refuse(STATE);
        }
        return Fraction.told(now.weeps(mourner), now.weepingAt(where), part);
    }

    public long winter(int grave, int n, int t, int v, int part) {
        if (!now.hasGrave(grave)) {
            return REFUSED_LONG - refuse(NOBODY);
        }
        if (n < 0 || v < 0 || t < 2) {
            return REFUSED_LONG - refuse(BELOW);
        }
        if (n > Thought.MOST_WINTER_DAYS || t > 20 || v > MOST_INCHES_ASKED) {
            return REFUSED_LONG - refuse(ROOM);
        }
        if (part < 0 || part > 1) {
            return REFUSED_LONG - refuse(OTHER);
        }
        long likely = thought.waysToBeDeeper(grave, n, t, v);
        return Fraction.told(likely, Fraction.power(t, n), part);
    }

    public long mean(int part) {
        if (part < 0 || part > 1) {
            return REFUSED_LONG - refuse(OTHER);
        }
        return Fraction.told(now.allInches(), now.graveCount(), part);
    }

    public int whoWept(int grave) {
        if (!now.hasGrave(grave)) {
            return refuse(NOBODY);
        }
        return thought.whoAloneFits(grave, numbers, numbersSize);
    }

    public int whatIs(int mourner, int what) {
        if (!now.hasMourner(mourner)) {
            return refuse(NOBODY);
        }
        if (what < 0 || what > 1) {
            return refuse(OTHER);
        }
        if (now.placeOf(mourner) == NONE) {
            return 0;
        }
        return what == 0
            ? thought.kindsThatFit(mourner, numbers, numbersSize)
            : thought.figuresThatFit(mourner, numbers, numbersSize);
    }

    public int row(int v) {
        int fault = faultOfRange(v, 0, 99);
        if (fault != 0) {
            return refuse(fault);
        }
        if (numbersSize < 0 || numbersSize >= numbers.length) {
            return refuse(ROOM);
        }
        numbers[numbersSize] = v;
        numbersSize++;
        return numbersSize;
    }

    public int judge() {
        int answer = firstUntrueGrief();
        numbersSize = 0;
        return answer;
    }

    public int clear() {
        int before = numbersSize;
        numbersSize = 0;
        return before;
    }

    public int lots(int n, int z, int what) {
        int fault = faultOfRange(n, 1, 20);
        if (fault != 0) {
            return refuse(fault);
        }
        if (what < 0 || what > 1) {
            return refuse(OTHER);
        }
        if (now.graveCount() == 0) {
            return refuse(STATE);
        }
        return what == 0 ? thought.payByLot(n, z) : thought.inchesByLot(n, z);
    }

    public int image() {
        picture.become(now);
        pictureTaken = true;
        return now.today();
    }

    public int on() {
        if (!pictureTaken) {
            return refuse(STATE);
        }
        now.become(picture);
        return now.today();
    }

    public int count(int what) {
        switch (what) {
            case 0:
                return now.graveCount();
            case 1:
                return now.mournerCount();
            case 2:
                return now.today();
            case 3:
                return now.allPay();
            case 4:
                return now.allInches();
            case 5:
                return now.allGrief();
            case 6:
                return numbersSize;
            case 7:
                return letters.howMany();
            default:
                return what >= 11 && what <= 16 ? refusals[what - 10] : NONE;
        }
    }

    /** Counts a refusal and answers its number. */
    private int refuse(int number) {
        int index = -number;
        if (index >= 0 && index < refusals.length) {
            refusals[index]++;
        }
        return number;
    }

    /** BELOW, ROOM, or 0 for a number within its range. */
    private static int faultOfRange(int v, int least, int greatest) {
        if (v < least) {
            return BELOW;
        }
        return v > greatest ? ROOM : 0;
    }

    private int firstUntrueGrief() {
        for (int i = 0; i < numbersSize && i < numbers.length; i++) {
            if (!now.hasMourner(i) || now.griefOf(i) != numbers[i]) {
                return i;
            }
        }
        return NONE;
    }

    /** What the kinds of mourners do; they are numbered as the document numbers them. */
    private static final class Kinds {
        static final int HOW_MANY = 6;
        static final int MOURNER = 0;
        static final int HIRED = 1;
        static final int ONION = 2;
        static final int WIT = 3;
        static final int FAMILY = 4;
        static final int LADY = 5;

        static int ofLetter(int c) {
            switch (c) {
                case 'm':
                    return MOURNER;
                case 'h':
                    return HIRED;
                case 'o':
                    return ONION;
                case 'w':
                    return WIT;
                case 'f':
                    return FAMILY;
                case 'l':
                    return LADY;
                default:
                    return NONE;
            }
        }

        static int weeping(int kind, int figure, int grief) {
            switch (kind) {
                case HIRED:
                    return figure / 2 + 1;
                case ONION:
                    return 2 * (figure / 2 + 1);
                case WIT:
                    return grief < 50 ? 0 : grief / 10;
                case FAMILY:
                    return grief / 10 + figure / 3;
                case LADY:
                    return 1;
                default:
                    return grief / 10;
            }
        }

        /** By how much grief is less behind a day. */
        static int fading(int kind) {
            switch (kind) {
                case HIRED:
                case ONION:
                case LADY:
                    return 0;
                case FAMILY:
                    return 1;
                default:
                    return 2;
            }
        }

        /** By how much grief is more when one is told a thing. */
        static int shock(int kind) {
            switch (kind) {
                case HIRED:
                case WIT:
                    return 0;
                case ONION:
                    return 5;
                case FAMILY:
                case LADY:
                    return 30;
                default:
                    return 20;
            }
        }
    }

    /**
     * Graves and mourners as they stand on one day. Whom there is no mourner or grave for yet
     * is nowhere, without grief and inches, so days and sums may go over all the room.
     */
    private static final class Churchyard {
        static final int MOST_GRAVES = 5;
        static final int MOST_MOURNERS = 6;
        static final int MOST_GRIEF = 99;
        static final int MOST_INCHES = 999;
        static final int LAST_DAY = 999;
        static final int FOOT = 12;
        private static final int MOST_DAYS_TO_FOOT = 99;

        private final int[] hard;
        private final int[] inches;
        private final int[] wet;
        private final int[] kinds;
        private final int[] figures;
        private final int[] griefs;
        private final int[] places;
        private int graves;
        private int mourners;
        private int day;

        Churchyard() {
            hard = new int[MOST_GRAVES];
            inches = new int[MOST_GRAVES];
            wet = new int[MOST_GRAVES];
            kinds = new int[MOST_MOURNERS];
            figures = new int[MOST_MOURNERS];
            griefs = new int[MOST_MOURNERS];
            places = new int[MOST_MOURNERS];
            graves = 0;
            mourners = 0;
            day = 0;
            allLeave();
        }

        void become(Churchyard other) {
            for (int g = 0; g < MOST_GRAVES; g++) {
                hard[g] = other.hard[g];
                inches[g] = other.inches[g];
                wet[g] = other.wet[g];
            }
            for (int m = 0; m < MOST_MOURNERS; m++) {
                kinds[m] = other.kinds[m];
                figures[m] = other.figures[m];
                griefs[m] = other.griefs[m];
                places[m] = other.places[m];
            }
            graves = other.graves;
            mourners = other.mourners;
            day = other.day;
        }

        int graveCount() {
            return graves;
        }

        int mournerCount() {
            return mourners;
        }

        int today() {
            return day;
        }

        boolean hasGrave(int g) {
            return g >= 0 && g < graves && g < MOST_GRAVES;
        }

        boolean hasMourner(int m) {
            return m >= 0 && m < mourners && m < MOST_MOURNERS;
        }

        boolean addGrave(int hardness) {
            if (graves < 0 || graves >= MOST_GRAVES) {
                return false;
            }
            hard[graves] = hardness;
            inches[graves] = 0;
            wet[graves] = 0;
            graves++;
            return true;
        }

        boolean addMourner(int kind, int figure, int grief) {
            if (mourners < 0 || mourners >= MOST_MOURNERS) {
                return false;
            }
            kinds[mourners] = kind;
            figures[mourners] = figure;
            griefs[mourners] = grief;
            places[mourners] = NONE;
            mourners++;
            return true;
        }

        int hardness(int g) {
            return hasGrave(g) ? hard[g] : 0;
        }

        int depth(int g) {
            return hasGrave(g) ? inches[g] : 0;
        }

        int wetness(int g) {
            return hasGrave(g) ? wet[g] : 0;
        }

        void setHardness(int g, int hardness) {
            if (hasGrave(g)) {
                hard[g] = hardness;
            }
        }

        int kindOf(int m) {
            return hasMourner(m) ? kinds[m] : NONE;
        }

        int figureOf(int m) {
            return hasMourner(m) ? figures[m] : 0;
        }

        int griefOf(int m) {
            return hasMourner(m) ? griefs[m] : 0;
        }

        int placeOf(int m) {
            return hasMourner(m) ? places[m] : NONE;
        }

        void setKind(int m, int kind) {
            if (hasMourner(m)) {
                kinds[m] = kind;
            }
        }

        void setFigure(int m, int figure) {
            if (hasMourner(m)) {
                figures[m] = figure;
            }
        }

        void setGrief(int m, int grief) {
            if (hasMourner(m)) {
                griefs[m] = grief;
            }
        }

        /** The place is a grave, or NONE for nowhere. */
        void place(int m, int where) {
            if (hasMourner(m)) {
                places[m] = where;
            }
        }

        void allLeave() {
            for (int m = 0; m < MOST_MOURNERS; m++) {
                places[m] = NONE;
            }
        }

        void inform(int m) {
            setGrief(m, Math.min(MOST_GRIEF, griefOf(m) + Kinds.shock(kindOf(m))));
        }

        int weeps(int m) {
            return Kinds.weeping(kindOf(m), figureOf(m), griefOf(m));
        }

        int mournersAt(int g) {
            int here = 0;
            for (int m = 0; m < MOST_MOURNERS; m++) {
                if (places[m] == g) {
                    here++;
                }
            }
            return here;
        }

        int weepingAt(int g) {
            int together = 0;
            for (int m = 0; m < MOST_MOURNERS; m++) {
                if (places[m] == g) {
                    together += weeps(m);
                }
            }
            return together;
        }

        /** How much weeping an inch takes. */
        int weepingForInch(int g) {
            return Math.max(1, hardness(g) + 1);
        }

        void soak(int g, int w) {
            if (g < 0 || g >= MOST_GRAVES) {
                return;
            }
            int all = wet[g] + w;
            int inch = Math.max(1, hard[g] + 1);
            inches[g] = Math.min(MOST_INCHES, inches[g] + all / inch);
            wet[g] = all % inch;
        }

        void fade() {
            for (int m = 0; m < MOST_MOURNERS; m++) {
                griefs[m] = Math.max(0, griefs[m] - Kinds.fading(kinds[m]));
            }
        }

        void passDay() {
            day++;
            for (int m = 0; m < MOST_MOURNERS; m++) {
                soak(places[m], Kinds.weeping(kinds[m], figures[m], griefs[m]));
            }
            fade();
        }

        void passDays(int n) {
            for (int i = 0; i < n; i++) {
                passDay();
            }
        }

        int payOf(int g) {
            return depth(g) / FOOT;
        }

        int allPay() {
            int sum = 0;
            for (int g = 0; g < MOST_GRAVES; g++) {
                sum += inches[g] / FOOT;
            }
            return sum;
        }

        int allInches() {
            int sum = 0;
            for (int g = 0; g < MOST_GRAVES; g++) {
                sum += inches[g];
            }
            return sum;
        }

        int allGrief() {
            int sum = 0;
            for (int m = 0; m < MOST_MOURNERS; m++) {
                sum += griefs[m];
            }
            return sum;
        }

        int daysToFoot(int g) {
            int goal = (payOf(g) + 1) * FOOT;
            // A grave without mourners does not soak, not even what it holds of wet.
            if (goal > MOST_INCHES || mournersAt(g) == 0) {
                return NONE;
            }
            int daily = weepingAt(g);
            int needed = (goal - depth(g)) * weepingForInch(g);
            for (int n = 1; n <= MOST_DAYS_TO_FOOT; n++) {
                if (wetness(g) + n * daily >= needed) {
                    return n;
                }
            }
            return NONE;
        }

        boolean isDry() {
            for (int m = 0; m < mourners; m++) {
                if (placeOf(m) != NONE && weeps(m) > 0) {
                    return false;
                }
            }
            return true;
        }

        int driest() {
            int best = NONE;
            for (int g = 0; g < graves; g++) {
                if (best == NONE || depth(g) < depth(best)) {
                    best = g;
                }
            }
            return best;
        }

        int deepest() {
            int best = NONE;
            for (int g = 0; g < graves; g++) {
                if (best == NONE || depth(g) > depth(best)) {
                    best = g;
                }
            }
            return best;
        }

        int weepsMost() {
            int best = NONE;
            for (int m = 0; m < mourners; m++) {
                if (placeOf(m) != NONE && (best == NONE || weeps(m) > weeps(best))) {
                    best = m;
                }
            }
            return best;
        }

        int gravesWithMourners(int howMany) {
            int bits = 0;
            for (int g = 0; g < graves; g++) {
                if (mournersAt(g) == howMany) {
                    bits |= 1 << g;
                }
            }
            return bits;
        }

        int deepOnes() {
            int bits = 0;
            for (int g = 0; g < graves; g++) {
                if (depth(g) >= FOOT) {
                    bits |= 1 << g;
                }
            }
            return bits;
        }
    }

    /** The letters of a churchyard to come. */
    private static final class Letters {
        private static final int LETTER_ROOM = 96;
        private static final int MOST_DAYS_TOLD = 60;

        private final int[] signs;
        private int size;

        Letters() {
            signs = new int[LETTER_ROOM];
            size = 0;
        }

        boolean isFull() {
            return size < 0 || size >= LETTER_ROOM;
        }

        int howMany() {
            return size;
        }

        int add(int c) {
            if (!isFull()) {
                signs[size] = c;
                size++;
            }
            return size;
        }

        void forget() {
            size = 0;
        }

        /** How many statements came to the churchyard, or the fault: then it may be half told. */
        int tellTo(Churchyard yard) {
            int misfit = firstMisfit();
            if (misfit != NONE) {
                return -1000 - misfit;
            }
            int statements = 0;
            int place = 0;
            while (place < size) {
                if (!statementComes(yard, place)) {
                    return -2000 - place;
                }
                statements++;
                place += Math.max(1, lengthOf(signAt(place)));
            }
            return statements;
        }

        private int signAt(int place) {
            return place >= 0 && place < size && place < LETTER_ROOM ? signs[place] : 0;
        }

        /** The value of a digit; what is no digit has been found out before. */
        private int digitAt(int place) {
            return Math.max(0, Math.min(9, signAt(place) - '0'));
        }

        private int twoDigitsAt(int place) {
            return 10 * digitAt(place) + digitAt(place + 1);
        }

        /** The letters of a statement with its ";", or 0 if none begins so. */
        private static int lengthOf(int beginning) {
            switch (beginning) {
                case 'g':
                case 'n':
                case 't':
                    return 3;
                case 'a':
                case 'h':
                case 'd':
                    return 4;
                case 'm':
                    return 6;
                default:
                    return 0;
            }
        }

        private int firstMisfit() {
            if (size == 0) {
                return 0;
            }
            int place = 0;
            while (place < size) {
                int length = lengthOf(signAt(place));
                if (length == 0) {
                    return place;
                }
                for (int i = 1; i < length; i++) {
                    if (place + i >= size || !fitsInside(place, i, length)) {
                        return place + i;
                    }
                }
                place += Math.max(1, length);
            }
            return NONE;
        }

        private boolean fitsInside(int place, int i, int length) {
            int c = signAt(place + i);
            if (i == length - 1) {
                return c == ';';
            }
            if (i == 1 && signAt(place) == 'm') {
                return Kinds.ofLetter(c) != NONE;
            }
            return c >= '0' && c <= '9';
        }

        private boolean statementComes(Churchyard yard, int place) {
            int one = digitAt(place + 1);
            int other = digitAt(place + 2);
            switch (signAt(place)) {
                case 'g':
                    return yard.addGrave(one);
                case 'm':
                    int kind = Kinds.ofLetter(signAt(place + 1));
                    return yard.addMourner(kind, other, twoDigitsAt(place + 3));
                case 'a':
                    return mournerComesTo(yard, one, other);
                case 'n':
                    yard.place(one, NONE);
                    return yard.hasMourner(one);
                case 't':
                    yard.inform(one);
                    return yard.hasMourner(one);
                case 'h':
                    yard.setHardness(one, other);
                    return yard.hasGrave(one);
                case 'd':
                    return daysGoBy(yard, twoDigitsAt(place + 1));
                default:
                    return false;
            }
        }

        private static boolean mournerComesTo(Churchyard yard, int mourner, int grave) {
            if (!yard.hasMourner(mourner) || !yard.hasGrave(grave)) {
                return false;
            }
            yard.place(mourner, grave);
            return true;
        }

        private static boolean daysGoBy(Churchyard yard, int n) {
            if (n < 1 || n > MOST_DAYS_TOLD || yard.today() + n > Churchyard.LAST_DAY) {
                return false;
            }
            yard.passDays(n);
            return true;
        }
    }

    /**
     * The best seating of all mourners for one day. A seating's code has a digit to the base 5
     * for each mourner, mourner 0's before all others, so the first seating has the least code;
     * its worth is inches times CODES less the code, so the greatest worth tells both.
     */
    private static final class Seating {
        private static final int CODES = 15625;
        private static final int SETS = 64;
        private static final int UNREACHED = -1000000000;
        private static final int[] DIGITS = {3125, 625, 125, 25, 5, 1};

        private final int[] weeping;
        private final int[] digits;
        private final int[] worth;
        private int best;

        Seating() {
            weeping = new int[SETS];
            digits = new int[SETS];
            worth = new int[SETS];
            best = 0;
        }

        void weigh(Churchyard yard) {
            int sets = Math.min(SETS, 1 << yard.mournerCount());
            measureSets(yard, sets);
            for (int set = 0; set < sets; set++) {
                worth[set] = set == 0 ? 0 : UNREACHED;
            }
            for (int g = 0; g < yard.graveCount(); g++) {
                // From the greatest set down: the lesser ones are still without this grave.
                for (int set = sets - 1; set >= 0; set--) {
                    worth[set] = bestWith(yard, g, set);
                }
            }
            best = sets > 0 ? worth[sets - 1] : 0;
        }

        int inches() {
            return Math.floorDiv(best + CODES - 1, CODES);
        }

        int graveOf(int mourner) {
            if (mourner < 0 || mourner >= DIGITS.length) {
                return NONE;
            }
            int code = inches() * CODES - best;
            return code / Math.max(1, DIGITS[mourner]) % 5;
        }

        private void measureSets(Churchyard yard, int sets) {
            for (int set = 0; set < sets; set++) {
                weeping[set] = 0;
                digits[set] = 0;
                for (int m = 0; m < DIGITS.length; m++) {
                    if ((set >> m & 1) == 1) {
                        weeping[set] += yard.weeps(m);
                        digits[set] += DIGITS[m];
                    }
                }
            }
        }

        private int bestWith(Churchyard yard, int g, int set) {
            if (set < 0 || set >= SETS) {
                return UNREACHED;
            }
            int most = worth[set];
            int wet = yard.wetness(g);
            int inch = Math.max(1, yard.weepingForInch(g));
            for (int here = 1; here <= set; here++) {
                if ((here & ~set) == 0) {
                    int inches = (wet + weeping[here]) / inch;
                    int worthHere = inches * CODES - g * digits[here];
                    most = Math.max(most, worth[set - here] + worthHere);
                }
            }
            return most;
        }
    }

    /** What would be, were things otherwise: tried on a churchyard in mind. */
    private static final class Thought {
        static final int MOST_WINTER_DAYS = 7;
        private static final int PRICE_OF_TELLING = 2;
        private static final int DAYS_OF_LOTS = 10;

        private final Churchyard now;
        private final Churchyard mind;
        private final int[] dayWeeping;
        private int seed;

        Thought(Churchyard now) {
            this.now = now;
            mind = new Churchyard();
            dayWeeping = new int[MOST_WINTER_DAYS];
            seed = 0;
        }

        Churchyard after(int n) {
            mind.become(now);
            mind.passDays(n);
            return mind;
        }

        int daysTillDeep(int g, int v, int most) {
            mind.become(now);
            for (int n = 0; n <= most; n++) {
                if (mind.depth(g) >= v) {
                    return n;
                }
                mind.passDay();
            }
            return NONE;
        }

        int daysTillFootDeeper(int most) {
            mind.become(now);
            for (int n = 0; n <= most; n++) {
                if (graveFootDeeperInMind() != NONE) {
                    return n;
                }
                mind.passDay();
            }
            return NONE;
        }

        int graveFirstFootDeeper(int most) {
            int n = daysTillFootDeeper(most);
            return n == NONE ? NONE : graveFootDeeperInMind();
        }

        private int graveFootDeeperInMind() {
            for (int g = 0; g < now.graveCount(); g++) {
                if (mind.depth(g) - now.depth(g) >= Churchyard.FOOT) {
                    return g;
                }
            }
            return NONE;
        }

        int daysTillDry(int most) {
            mind.become(now);
            for (int n = 0; n <= most; n++) {
                if (mind.isDry()) {
                    return n;
                }
                mind.passDay();
            }
            return NONE;
        }

        int fewestFor(int g, int v, int n) {
            int best = NONE;
            for (int set = 0; set < 1 << now.mournerCount(); set++) {
                boolean fewer = best == NONE || Integer.bitCount(set) < Integer.bitCount(best);
                if (fewer && depthBy(set, g, n) >= v) {
                    best = set;
                }
            }
            return best;
        }

        private int depthBy(int set, int g, int n) {
            mind.become(now);
            for (int m = 0; m < now.mournerCount(); m++) {
                mind.place(m, (set >> m & 1) == 1 ? g : NONE);
            }
            mind.passDays(n);
            return mind.depth(g);
        }

        int whomToTell(int n) {
            int most = after(n).allInches();
            int best = NONE;
            for (int m = 0; m < now.mournerCount(); m++) {
                mind.become(now);
                mind.inform(m);
                mind.passDays(n);
                int inches = mind.allInches();
                if (inches > most) {
                    most = inches;
                    best = m;
                }
            }
            return best;
        }

        int inchesLostWithout(int m, int n) {
            int with = after(n).allInches();
            mind.become(now);
            mind.place(m, NONE);
            mind.passDays(n);
            return with - mind.allInches();
        }

        int whomToSend(int n) {
            int best = NONE;
            int least = 0;
            for (int m = 0; m < now.mournerCount(); m++) {
                if (now.placeOf(m) != NONE) {
                    int lost = inchesLostWithout(m, n);
                    if (best == NONE || lost < least) {
                        least = lost;
                        best = m;
                    }
                }
            }
            return best;
        }

        int whereToBring(int m, int n) {
            int most = after(n).allPay();
            int best = NONE;
            for (int g = 0; g < now.graveCount(); g++) {
                mind.become(now);
                mind.place(m, g);
                mind.passDays(n);
                int pay = mind.allPay();
                if (pay > most) {
                    most = pay;
                    best = g;
                }
            }
            return best;
        }

        int whichToChange(int n) {
            int most = after(n).allPay();
            int best = NONE;
            for (int a = 0; a < now.mournerCount(); a++) {
                for (int b = a + 1; b < now.mournerCount(); b++) {
                    mind.become(now);
                    mind.place(a, now.placeOf(b));
                    mind.place(b, now.placeOf(a));
                    mind.passDays(n);
                    int pay = mind.allPay();
                    if (pay > most) {
                        most = pay;
                        best = 10 * a + b;
                    }
                }
            }
            return best;
        }

        int inchesMoreAsOnion(int m, int n) {
            int before = after(n).allInches();
            mind.become(now);
            mind.setKind(m, Kinds.ONION);
            mind.passDays(n);
            return mind.allInches() - before;
        }

        int firstCalmPair(int a, int b, int n) {
            for (int pair = 0; pair < 4; pair++) {
                boolean aTold = pair >= 2;
                boolean bTold = pair % 2 == 1;
                boolean calm = gain(a, aTold, b, bTold, n) >= gain(a, !aTold, b, bTold, n)
                    && gain(b, bTold, a, aTold, n) >= gain(b, !bTold, a, aTold, n);
                if (calm) {
                    return (aTold ? 10 : 0) + (bTold ? 1 : 0);
                }
            }
            return NONE;
        }

        /** What the one has: inches of his own grave, less what being told costs him. */
        private int gain(int one, boolean oneTold, int other, boolean otherTold, int n) {
            mind.become(now);
            if (oneTold) {
                mind.inform(one);
            }
            if (otherTold) {
                mind.inform(other);
            }
            mind.passDays(n);
            int own = now.placeOf(one);
            return mind.depth(own) - now.depth(own) - (oneTold ? PRICE_OF_TELLING : 0);
        }

        /** Of t to the n ways, alike likely, those in which the grave is v inches deeper. */
        long waysToBeDeeper(int g, int n, int t, int v) {
            mind.become(now);
            for (int i = 0; i < n && i < MOST_WINTER_DAYS; i++) {
                dayWeeping[i] = mind.weepingAt(g);
                mind.fade();
            }
            long ways = 0;
            for (int set = 0; set < 1 << n; set++) {
                if (inchesOnDays(set, g, n) >= v) {
                    ways += Fraction.power(t - 1, Integer.bitCount(set));
                }
            }
            return ways;
        }

        /** How much deeper the grave is if it soaks on the days of the set alone. */
        private int inchesOnDays(int set, int g, int n) {
            if (now.mournersAt(g) == 0) {
                return 0;
            }
            mind.become(now);
            for (int i = 0; i < n && i < MOST_WINTER_DAYS; i++) {
                if ((set >> i & 1) == 1) {
                    mind.soak(g, dayWeeping[i]);
                }
            }
            return mind.depth(g) - now.depth(g);
        }

        int whoAloneFits(int g, int[] row, int size) {
            int bits = 0;
            for (int m = 0; m < now.mournerCount(); m++) {
                mind.become(now);
                mind.allLeave();
                mind.place(m, g);
                if (fitsRow(g, row, size)) {
                    bits |= 1 << m;
                }
            }
            return bits;
        }

        int kindsThatFit(int m, int[] row, int size) {
            int bits = 0;
            for (int kind = 0; kind < Kinds.HOW_MANY; kind++) {
                mind.become(now);
                mind.setKind(m, kind);
                if (fitsRow(now.placeOf(m), row, size)) {
                    bits |= 1 << kind;
                }
            }
            return bits;
        }

        int figuresThatFit(int m, int[] row, int size) {
            int bits = 0;
            for (int figure = 0; figure <= 9; figure++) {
                mind.become(now);
                mind.setFigure(m, figure);
                if (fitsRow(now.placeOf(m), row, size)) {
                    bits |= 1 << figure;
                }
            }
            return bits;
        }

        private boolean fitsRow(int g, int[] row, int size) {
            for (int i = 0; i < size && i < row.length; i++) {
                if (mind.depth(g) != row[i]) {
                    return false;
                }
                mind.passDay();
            }
            return true;
        }

        int payByLot(int n, int z) {
            seed = z;
            int sum = 0;
            for (int i = 0; i < n; i++) {
                drawChurchyard();
                mind.passDays(DAYS_OF_LOTS);
                sum += mind.allPay();
            }
            return sum;
        }

        int inchesByLot(int n, int z) {
            seed = z;
            int sum = 0;
            for (int i = 0; i < n; i++) {
                drawChurchyard();
                mind.passDays(DAYS_OF_LOTS);
                sum += mind.allInches() - now.allInches();
            }
            return sum;
        }

        private void drawChurchyard() {
            mind.become(now);
            for (int m = 0; m < now.mournerCount(); m++) {
                mind.place(m, drawBelow(now.graveCount()));
                mind.setGrief(m, drawBelow(100));
            }
        }

        private int drawBelow(int m) {
            seed = seed * 1664525 + 1013904223;
            return (seed & 0x7fffffff) / 256 % Math.max(1, m);
        }
    }

    /** Fractions in least terms. */
    private static final class Fraction {
        private static final int MOST_STEPS = 1000;

        /** Part 0 is above the line, 1 below it; nothing, or of nothing, is 0 by 1. */
        static long told(long above, long below, int part) {
            if (above <= 0 || below <= 0) {
                return part == 0 ? 0 : 1;
            }
            long common = Math.max(1, commonDivisor(above, below));
            return part == 0 ? above / common : below / common;
        }

        static long power(long base, int exponent) {
            long product = 1;
            for (int i = 0; i < exponent; i++) {
                product *= base;
            }
            return product;
        }

        private static long commonDivisor(long a, long b) {
            long greater = a;
            long lesser = b;
            for (int i = 0; i < MOST_STEPS && lesser != 0; i++) {
                long rest = greater % lesser;
                greater = lesser;
                lesser = rest;
            }
            return greater;
        }
    }
}
