/** Dances written in signs; ../shared/DOC.md says what each call promises. */
public final class DanceStaffs {
    public static final int BAD = -1, STATE = -2, FULL = -3, NONE = -9;

    private static final int MOST_LETTERS = 100, LAST_LETTER = 255;
    private static final int MOST_DANCERS = 3, MOST_BEATS = 10, MOST_RESTS_AHEAD = 4;
    private static final int MOST_UNDONE = 10, MOST_SEEN = 6, IMAGES = 2;
    private static final int SIDE = 7, DIRECTIONS = 8;
    private static final int FAULT_AT_START = -10;

    private static final int REST = 0, CLOSE = 1, FIRST_LEFT = 2, FIRST_RIGHT = 10;
    private static final int FIRST_LEAP = 18, FIRST_TURN = 26, LAST_SIGN = 32;
    private static final int LEFT_LEG = 0, RIGHT_LEG = 1, BOTH_LEGS = 2;

    private static final int[] X_BY_DIRECTION = {0, 1, 1, 1, 0, -1, -1, -1};
    private static final int[] Y_BY_DIRECTION = {1, 1, 0, -1, -1, -1, 0, 1};

    private final Text text = new Text();
    private final Reader reader = new Reader();
    private Troupe troupe = new Troupe();
    // The text is read into this one, so that a fault leaves the troupe as it is.
    private Troupe draft = new Troupe();
    private final History history = new History();
    private final Sightings sightings = new Sightings();
    private final Image firstImage = new Image();
    private final Image secondImage = new Image();
    private final Course course = new Course();
    private final Course otherCourse = new Course();
    private final Standing walker = new Standing();
    private final Standing trial = new Standing();
    private final long[] placesBehind = new long[MOST_BEATS + 1];

    public DanceStaffs() {
    }

    // ---- staffs

    public int type(int letter) {
        if (letter < 0 || letter > LAST_LETTER) {
            return BAD;
        }
        return text.append(letter) ? text.length() : FULL;
    }

    public int clear() {
        int had = text.length();
        text.empty();
        return had;
    }

    public int dance() {
        int items = reader.read(text, draft);
        if (items < 0) {
            return items;
        }
        Troupe told = draft;
        draft = troupe;
        troupe = told;
        text.empty();
        history.empty();
        sightings.empty();
        firstImage.drop();
        secondImage.drop();
        return items;
    }

    public int sign(int d, int beat) {
        if (!isDancer(d) || beat < 0 || beat >= MOST_BEATS) {
            return BAD;
        }
        return troupe.staffs.signAt(d, beat);
    }

    public int stand(int d, int n, int what) {
        if (!isDancer(d) || !isMoment(n)) {
            return BAD;
        }
        course.follow(troupe, d, NONE);
        course.bring(walker, n);
        switch (what) {
            case 0: return walker.x;
            case 1: return walker.y;
            case 2: return walker.looks;
            case 3: return walker.weight;
            default: return BAD;
        }
    }

    public int staff(int d, int what) {
        if (!isDancer(d)) {
            return BAD;
        }
        course.follow(troupe, d, NONE);
        switch (what) {
            case 0: return troupe.staffs.lengthOf(d);
            case 1: return course.broken;
            case 2: return course.span();
            case 3: return course.shifts();
            case 4: return course.home();
            default: return BAD;
        }
    }

    // ---- what is done

    public int mirrors(int d) {
        if (!isDancer(d)) {
            return BAD;
        }
        history.remember(troupe.staffs, d);
        troupe.staffs.mirror(d);
        return troupe.staffs.lengthOf(d);
    }

    public int canons(int d, int other, int n) {
        if (!areTwo(d, other) || n < 0 || n > MOST_RESTS_AHEAD) {
            return BAD;
        }
        history.remember(troupe.staffs, d);
        troupe.staffs.makeCanon(d, other, n);
        return troupe.staffs.lengthOf(d);
    }

    public int changes(int d, int beat, int sign) {
        if (!isDancer(d) || !isSign(sign)) {
            return BAD;
        }
        int was = troupe.staffs.signAt(d, beat);
        if (was == NONE) {
            return BAD;
        }
        if (was == sign) {
            return STATE;
        }
        history.remember(troupe.staffs, d);
        troupe.staffs.replace(d, beat, sign);
        return was;
    }

    public int adds(int d, int sign) {
        if (!isDancer(d) || !isSign(sign)) {
            return BAD;
        }
        if (troupe.staffs.lengthOf(d) >= MOST_BEATS) {
            return FULL;
        }
        history.remember(troupe.staffs, d);
        troupe.staffs.append(d, sign);
        return troupe.staffs.lengthOf(d);
    }

    public int undo() {
        if (history.size == 0) {
            return STATE;
        }
        history.revert(troupe.staffs);
        return history.size;
    }

    // ---- meetings, ways

    public int meet(int d, int other, int what) {
        if (!areTwo(d, other) || what < 0 || what > 1) {
            return BAD;
        }
        followBoth(d, other);
        return what == 0 ? firstMeeting() : firstCrossing();
    }

    public int fewest(int d, int n, int x, int y, int looks, int k) {
        if (!isDancer(d) || !isMoment(n) || !isOnFloor(x, y)) {
            return BAD;
        }
        if (looks < 0 || looks >= DIRECTIONS || k < -1) {
            return BAD;
        }
        course.follow(troupe, d, NONE);
        course.bring(walker, n);
        int all = walker.signsTo(x, y, looks);
        if (k == -1) {
            return all;
        }
        return k < all ? signOnWay(x, y, looks, k) : NONE;
    }

    // ---- which sign

    public int sees(int n, int x, int y) {
        if (troupe.size == 0 || !isMoment(n) || !isOnFloor(x, y)) {
            return BAD;
        }
        return sightings.add(n, x, y) ? sightings.size : FULL;
    }

    public int forget() {
        int were = sightings.size;
        sightings.empty();
        return were;
    }

    public int unseen() {
        return possibleBeats();
    }

    public int look() {
        int beats = possibleBeats();
        if (Integer.bitCount(beats) < 2) {
            return NONE;
        }
        gatherPlaces(beats);
        int best = 1;
        for (int n = 2; n <= MOST_BEATS; n++) {
            if (Long.bitCount(placesBehind[n]) > Long.bitCount(placesBehind[best])) {
                best = n;
            }
        }
        return best;
    }

    // ---- images

    public int keep(int image) {
        if (image < 0 || image >= IMAGES) {
            return BAD;
        }
        imageOf(image).take(troupe.staffs);
        return troupe.size;
    }

    public int back(int image) {
        if (image < 0 || image >= IMAGES) {
            return BAD;
        }
        if (!imageOf(image).isTaken) {
            return STATE;
        }
        troupe.staffs.copyFrom(imageOf(image).staffs);
        history.empty();
        return troupe.size;
    }

    public int count(int what) {
        switch (what) {
            case 0: return troupe.size;
            case 1: return signsOfAll();
            case 2: return brokenStaffs();
            case 3: return twosTogether();
            case 4: return sightings.size;
            case 5: return text.length();
            case 6: return history.size;
            default: return BAD;
        }
    }

    // ---- what numbers may be

    private boolean isDancer(int d) {
        return d >= 0 && d < troupe.size;
    }

    private boolean areTwo(int d, int other) {
        return isDancer(d) && isDancer(other) && d != other;
    }

    private static boolean isMoment(int n) {
        return n >= 0 && n <= MOST_BEATS;
    }

    private static boolean isSign(int sign) {
        return sign >= REST && sign <= LAST_SIGN;
    }

    private static boolean isOnFloor(int x, int y) {
        return x >= 0 && x < SIDE && y >= 0 && y < SIDE;
    }

    private Image imageOf(int image) {
        return image == 0 ? firstImage : secondImage;
    }

    // ---- two dancers

    private void followBoth(int d, int other) {
        course.follow(troupe, d, NONE);
        otherCourse.follow(troupe, other, NONE);
    }

    private int firstMeeting() {
        for (int n = 0; n <= MOST_BEATS; n++) {
            if (course.meets(otherCourse, n)) {
                return n;
            }
        }
        return NONE;
    }

    private int firstCrossing() {
        for (int n = 1; n <= MOST_BEATS; n++) {
            if (course.crosses(otherCourse, n)) {
                return n;
            }
        }
        return NONE;
    }

    private int twosTogether() {
        int twos = 0;
        for (int d = 0; d < troupe.size; d++) {
            for (int other = d + 1; other < troupe.size; other++) {
                followBoth(d, other);
                if (firstMeeting() != NONE || firstCrossing() != NONE) {
                    twos++;
                }
            }
        }
        return twos;
    }

    // ---- all staffs

    private int signsOfAll() {
        int signs = 0;
        for (int d = 0; d < troupe.size; d++) {
            signs += troupe.staffs.lengthOf(d);
        }
        return signs;
    }

    private int brokenStaffs() {
        int staffs = 0;
        for (int d = 0; d < troupe.size; d++) {
            course.follow(troupe, d, NONE);
            if (course.broken != NONE) {
                staffs++;
            }
        }
        return staffs;
    }

    // ---- the first of the shortest ways

    private int signOnWay(int x, int y, int looks, int k) {
        int sign = NONE;
        for (int step = 0; step <= k; step++) {
            sign = firstSignNearer(x, y, looks);
        }
        return sign;
    }

    /** The walker dances the first sign that leaves it one sign fewer to go. */
    private int firstSignNearer(int x, int y, int looks) {
        int left = walker.signsTo(x, y, looks);
        for (int sign = CLOSE; sign <= LAST_SIGN; sign++) {
            trial.copyFrom(walker);
            if (trial.take(sign) && trial.signsTo(x, y, looks) < left) {
                walker.copyFrom(trial);
                return sign;
            }
        }
        return NONE;
    }

    // ---- which sign was danced wrongly

    private int possibleBeats() {
        int beats = 0;
        for (int beat = 0; beat < troupe.staffs.lengthOf(0); beat++) {
            course.follow(troupe, 0, beat);
            if (sightings.agreeWith(course)) {
                beats |= 1 << beat;
            }
        }
        return beats;
    }

    private void gatherPlaces(int beats) {
        for (int n = 0; n <= MOST_BEATS; n++) {
            placesBehind[n] = 0;
        }
        for (int beat = 0; beat < MOST_BEATS; beat++) {
            if ((beats & (1 << beat)) != 0) {
                course.follow(troupe, 0, beat);
                for (int n = 0; n <= MOST_BEATS; n++) {
                    placesBehind[n] |= course.placeBit(n);
                }
            }
        }
    }

    /** By how much a LEFT, RIGHT or LEAP is; their signs come in rows of eight. */
    private static int directionOf(int sign) {
        return (sign - FIRST_LEFT) % DIRECTIONS;
    }

    /** The letters told so far. */
    private static final class Text {
        private final int[] letters = new int[MOST_LETTERS];
        private int length = 0;

        int length() {
            return length;
        }

        int letterAt(int place) {
            return place >= 0 && place < length ? letters[place] : NONE;
        }

        boolean append(int letter) {
            if (length >= MOST_LETTERS) {
                return false;
            }
            letters[length] = letter;
            length++;
            return true;
        }

        void empty() {
            length = 0;
        }
    }

    /** Reads a text token by token; a fault is always where the present token begins. */
    private static final class Reader {
        // No letter has this number; it stands for a number of two digits or more.
        private static final int LONG_NUMBER = 256;

        private int next;
        private int begin;
        // The letter of a token is all there is to it, NONE at the text's end.
        private int token;

        /** How many items, or -10 less the fault. */
        int read(Text text, Troupe told) {
            told.empty();
            next = 0;
            advance(text);
            for (int item = 0; item < MOST_DANCERS && token != NONE; item++) {
                if (!readItem(text, told)) {
                    return FAULT_AT_START - begin;
                }
                advance(text);
            }
            return token == NONE ? told.size : FAULT_AT_START - begin;
        }

        private boolean readItem(Text text, Troupe told) {
            if (token != 'd') {
                return false;
            }
            int x = readNumber(text, 0, SIDE - 1);
            int y = x == NONE ? NONE : readNumber(text, 0, SIDE - 1);
            int looks = y == NONE ? NONE : readNumber(text, 0, DIRECTIONS - 1);
            if (looks == NONE) {
                return false;
            }
            int d = told.size;
            told.add(x, y, looks);
            advance(text);
            for (int beat = 0; beat < MOST_BEATS && token != ';'; beat++) {
                int sign = readSign(text);
                if (sign == NONE) {
                    return false;
                }
                told.staffs.append(d, sign);
                advance(text);
            }
            return token == ';';
        }

        private int readSign(Text text) {
            if (token == '.') {
                return REST;
            }
            if (token == 'c') {
                return CLOSE;
            }
            int first = firstSignOf(token);
            if (first == NONE) {
                return NONE;
            }
            int least = first == FIRST_TURN ? 1 : 0;
            int by = readNumber(text, least, DIRECTIONS - 1);
            return by == NONE ? NONE : first + by - least;
        }

        private static int firstSignOf(int letter) {
            switch (letter) {
                case 'l': return FIRST_LEFT;
                case 'r': return FIRST_RIGHT;
                case 'j': return FIRST_LEAP;
                case 't': return FIRST_TURN;
                default: return NONE;
            }
        }

        private int readNumber(Text text, int least, int most) {
            advance(text);
            if (!isDigit(token)) {
                return NONE;
            }
            int number = token - '0';
            return number >= least && number <= most ? number : NONE;
        }

        private void advance(Text text) {
            while (next < text.length() && text.letterAt(next) == ' ') {
                next++;
            }
            begin = next;
            token = text.letterAt(begin);
            next++;
            if (isDigit(token) && isDigit(text.letterAt(next))) {
                token = LONG_NUMBER;
            }
        }

        private static boolean isDigit(int letter) {
            return letter >= '0' && letter <= '9';
        }
    }

    /** The dancers: where each begins, where it looks then, and the staffs. */
    private static final class Troupe {
        private final int[] xs = new int[MOST_DANCERS];
        private final int[] ys = new int[MOST_DANCERS];
        private final int[] looks = new int[MOST_DANCERS];
        private final Staffs staffs = new Staffs();
        private int size = 0;

        void empty() {
            size = 0;
            staffs.empty();
        }

        void add(int x, int y, int direction) {
            if (size >= MOST_DANCERS) {
                return;
            }
            xs[size] = x;
            ys[size] = y;
            looks[size] = direction;
            size++;
        }

        void bringToBegin(Standing standing, int d) {
            if (d < 0 || d >= size) {
                return;
            }
            standing.set(xs[d], ys[d], looks[d], BOTH_LEGS);
        }
    }

    /** The staffs of all dancers, each in its own part of one row. */
    private static final class Staffs {
        private final int[] signs = new int[MOST_DANCERS * MOST_BEATS];
        private final int[] lengths = new int[MOST_DANCERS];

        void empty() {
            for (int d = 0; d < MOST_DANCERS; d++) {
                lengths[d] = 0;
            }
        }

        int lengthOf(int d) {
            return isStaff(d) ? lengths[d] : 0;
        }

        /** NONE where the staff has no sign. */
        int signAt(int d, int beat) {
            return hasSign(d, beat) ? signs[d * MOST_BEATS + beat] : NONE;
        }

        void append(int d, int sign) {
            if (!isStaff(d) || lengths[d] >= MOST_BEATS) {
                return;
            }
            lengths[d]++;
            replace(d, lengths[d] - 1, sign);
        }

        void replace(int d, int beat, int sign) {
            if (hasSign(d, beat)) {
                signs[d * MOST_BEATS + beat] = sign;
            }
        }

        void mirror(int d) {
            for (int beat = 0; beat < lengthOf(d); beat++) {
                replace(d, beat, mirrored(signAt(d, beat)));
            }
        }

        void makeCanon(int d, int other, int rests) {
            setLength(d, Math.min(MOST_BEATS, rests + lengthOf(other)));
            for (int beat = 0; beat < lengthOf(d); beat++) {
                replace(d, beat, beat < rests ? REST : signAt(other, beat - rests));
            }
        }

        void setLength(int d, int length) {
            if (isStaff(d) && length >= 0 && length <= MOST_BEATS) {
                lengths[d] = length;
            }
        }

        void copyFrom(Staffs from) {
            for (int d = 0; d < MOST_DANCERS; d++) {
                setLength(d, from.lengthOf(d));
                for (int beat = 0; beat < lengthOf(d); beat++) {
                    replace(d, beat, from.signAt(d, beat));
                }
            }
        }

        private boolean hasSign(int d, int beat) {
            return isStaff(d) && beat >= 0 && beat < lengths[d];
        }

        private static boolean isStaff(int d) {
            return d >= 0 && d < MOST_DANCERS;
        }

        private static int mirrored(int sign) {
            if (sign < FIRST_LEFT) {
                return sign;
            }
            if (sign >= FIRST_TURN) {
                return FIRST_TURN + LAST_SIGN - sign;
            }
            int by = (DIRECTIONS - directionOf(sign)) % DIRECTIONS;
            if (sign < FIRST_RIGHT) {
                return FIRST_RIGHT + by;
            }
            return (sign < FIRST_LEAP ? FIRST_LEFT : FIRST_LEAP) + by;
        }
    }

    /** The latest staffs as they were before they were changed, the oldest overwritten. */
    private static final class History {
        private final int[] signs = new int[MOST_UNDONE * MOST_BEATS];
        private final int[] lengths = new int[MOST_UNDONE];
        private final int[] dancers = new int[MOST_UNDONE];
        private int oldest = 0;
        private int size = 0;

        void empty() {
            size = 0;
        }

        void remember(Staffs staffs, int d) {
            int slot = slotBehind(size);
            if (size < MOST_UNDONE) {
                size++;
            } else {
                oldest = slotBehind(1);
            }
            dancers[slot] = d;
            lengths[slot] = staffs.lengthOf(d);
            for (int beat = 0; beat < MOST_BEATS; beat++) {
                signs[slot * MOST_BEATS + beat] = staffs.signAt(d, beat);
            }
        }

        void revert(Staffs staffs) {
            if (size == 0) {
                return;
            }
            size--;
            int slot = slotBehind(size);
            int d = dancers[slot];
            staffs.setLength(d, lengths[slot]);
            for (int beat = 0; beat < MOST_BEATS; beat++) {
                staffs.replace(d, beat, signs[slot * MOST_BEATS + beat]);
            }
        }

        /** Always one that there is, whatever the sum. */
        private int slotBehind(int count) {
            return Math.floorMod(oldest + count, MOST_UNDONE);
        }
    }

    /** Staffs kept for later. */
    private static final class Image {
        private final Staffs staffs = new Staffs();
        private boolean isTaken = false;

        void take(Staffs from) {
            staffs.copyFrom(from);
            isTaken = true;
        }

        void drop() {
            isTaken = false;
        }
    }

    /** Where dancer 0 was seen. */
    private static final class Sightings {
        private final int[] moments = new int[MOST_SEEN];
        private final int[] xs = new int[MOST_SEEN];
        private final int[] ys = new int[MOST_SEEN];
        private int size = 0;

        void empty() {
            size = 0;
        }

        boolean add(int n, int x, int y) {
            if (size >= MOST_SEEN) {
                return false;
            }
            moments[size] = n;
            xs[size] = x;
            ys[size] = y;
            size++;
            return true;
        }

        boolean agreeWith(Course course) {
            for (int i = 0; i < size && i < MOST_SEEN; i++) {
                if (!course.isAt(moments[i], xs[i], ys[i])) {
                    return false;
                }
            }
            return true;
        }
    }

    /** Where a dancer is, where it looks, and on which legs its weight is. */
    private static final class Standing {
        private int x;
        private int y;
        private int looks;
        private int weight;

        void set(int newX, int newY, int newLooks, int newWeight) {
            x = newX;
            y = newY;
            looks = newLooks;
            weight = newWeight;
        }

        void copyFrom(Standing from) {
            set(from.x, from.y, from.looks, from.weight);
        }

        /** Dances a sign; false, and nothing changes, if it can not be. */
        boolean take(int sign) {
            if (sign == REST) {
                return true;
            }
            if (sign == CLOSE) {
                weight = BOTH_LEGS;
                return true;
            }
            if (sign >= FIRST_TURN) {
                looks = (looks + sign - FIRST_TURN + 1) % DIRECTIONS;
                return true;
            }
            if (sign >= FIRST_LEAP) {
                return goBy(directionOf(sign), BOTH_LEGS);
            }
            int leg = sign < FIRST_RIGHT ? LEFT_LEG : RIGHT_LEG;
            return weight != leg && goBy(directionOf(sign), leg);
        }

        private boolean goBy(int by, int newWeight) {
            // The mask keeps the index within 0 .. 7 whatever the sum is.
            int direction = (looks + by) & (DIRECTIONS - 1);
            int newX = x + X_BY_DIRECTION[direction];
            int newY = y + Y_BY_DIRECTION[direction];
            if (!isOnFloor(newX, newY)) {
                return false;
            }
            set(newX, newY, looks, newWeight);
            return true;
        }

        /**
         * A leap leads to each neighbour whatever the weight is, and one turn to each
         * direction, so no search is needed: no sign does more than one of these.
         */
        int signsTo(int toX, int toY, int toLooks) {
            int steps = Math.max(Math.abs(toX - x), Math.abs(toY - y));
            return toLooks == looks ? steps : steps + 1;
        }
    }

    /** The standings of a dancer behind 0 to 10 beats, danced. */
    private static final class Course {
        private final int[] xs = new int[MOST_BEATS + 1];
        private final int[] ys = new int[MOST_BEATS + 1];
        private final int[] looks = new int[MOST_BEATS + 1];
        private final int[] weights = new int[MOST_BEATS + 1];
        private final Standing standing = new Standing();
        private int broken;

        /** Dances a staff, a rest instead of its sign at restBeat (NONE: as it is). */
        void follow(Troupe troupe, int d, int restBeat) {
            broken = NONE;
            troupe.bringToBegin(standing, d);
            note(0);
            for (int beat = 0; beat < MOST_BEATS; beat++) {
                int sign = troupe.staffs.signAt(d, beat);
                boolean rests = sign == NONE || beat == restBeat || broken != NONE;
                if (!rests && !standing.take(sign)) {
                    broken = beat;
                }
                note(beat + 1);
            }
        }

        private void note(int n) {
            if (!isMoment(n)) {
                return;
            }
            xs[n] = standing.x;
            ys[n] = standing.y;
            looks[n] = standing.looks;
            weights[n] = standing.weight;
        }

        void bring(Standing to, int n) {
            if (isMoment(n)) {
                to.set(xs[n], ys[n], looks[n], weights[n]);
            }
        }

        boolean isAt(int n, int x, int y) {
            return isMoment(n) && xs[n] == x && ys[n] == y;
        }

        long placeBit(int n) {
            return isMoment(n) ? 1L << (ys[n] * SIDE + xs[n]) : 0L;
        }

        int span() {
            long places = 0L;
            for (int n = 0; n <= MOST_BEATS; n++) {
                places |= placeBit(n);
            }
            return Long.bitCount(places);
        }

        int shifts() {
            int shifts = 0;
            for (int n = 1; n <= MOST_BEATS; n++) {
                if (weights[n] != weights[n - 1]) {
                    shifts++;
                }
            }
            return shifts;
        }

        int home() {
            boolean hasBeenElsewhere = false;
            for (int n = 1; n <= MOST_BEATS; n++) {
                boolean isHome = isAt(n, xs[0], ys[0]);
                if (isHome && hasBeenElsewhere) {
                    return n;
                }
                hasBeenElsewhere |= !isHome;
            }
            return NONE;
        }

        boolean meets(Course other, int n) {
            return isMoment(n) && other.isAt(n, xs[n], ys[n]);
        }

        /**
         * Changing places and crossing corner to corner are the same thing: the ways
         * have one middle and do not begin at one place.
         */
        boolean crosses(Course other, int n) {
            if (n < 1 || n > MOST_BEATS || meets(other, n - 1)) {
                return false;
            }
            return xs[n - 1] + xs[n] == other.xs[n - 1] + other.xs[n]
                && ys[n - 1] + ys[n] == other.ys[n - 1] + other.ys[n];
        }
    }
}
