import java.util.ArrayDeque;
import java.util.ArrayList;
import java.util.Deque;
import java.util.HashMap;
import java.util.HashSet;
import java.util.List;
import java.util.Map;
import java.util.Set;
import java.util.regex.Matcher;
import java.util.regex.Pattern;

/**
 * The document written a second time, with the library and other ways of reckoning
 * (a search for the fewest signs, whole copies to undo), for ModelTest to compare with.
 */
final class Model {
    private static final int BAD = -1, STATE = -2, FULL = -3, NONE = -9;
    private static final int[][] WAYS = {{0, 1}, {1, 1}, {1, 0}, {1, -1}, {0, -1}, {-1, -1}, {-1, 0}, {-1, 1}};
    private static final Pattern TOKEN = Pattern.compile("[0-9]+|[^ ]", Pattern.DOTALL);

    record Begin(int x, int y, int looks) { }

    record Stand(int x, int y, int looks, int weight) {
        boolean sharesPlace(Stand other) {
            return x == other.x && y == other.y;
        }

        int told(int what) {
            return new int[] {x, y, looks, weight}[what];
        }
    }

    record Seen(int n, int x, int y) { }

    record Token(String word, int place) { }

    record Aim(Stand from, int x, int y, int looks) { }

    // A search is dear, and a way depends on nothing but the aim.
    private static final Map<Aim, List<Integer>> KNOWN = new HashMap<>();

    private String text = "";
    private List<Begin> begins = new ArrayList<>();
    private List<List<Integer>> staffs = new ArrayList<>();
    private final Deque<List<List<Integer>>> undos = new ArrayDeque<>();
    private final List<Seen> seen = new ArrayList<>();
    private final Map<Integer, List<List<Integer>>> images = new HashMap<>();

    // ---- the text

    int type(int letter) {
        if (letter < 0 || letter > 255) {
            return BAD;
        }
        if (text.length() == 100) {
            return FULL;
        }
        text += (char) letter;
        return text.length();
    }

    int clear() {
        int had = text.length();
        text = "";
        return had;
    }

    int dance() {
        List<Begin> newBegins = new ArrayList<>();
        List<List<Integer>> newStaffs = new ArrayList<>();
        int fault = read(tokens(), newBegins, newStaffs);
        if (fault >= 0) {
            return -10 - fault;
        }
        begins = newBegins;
        staffs = newStaffs;
        text = "";
        undos.clear();
        seen.clear();
        images.clear();
        return begins.size();
    }

    private List<Token> tokens() {
        List<Token> tokens = new ArrayList<>();
        Matcher matcher = TOKEN.matcher(text);
        while (matcher.find()) {
            tokens.add(new Token(matcher.group(), matcher.start()));
        }
        return tokens;
    }

    /** What may come next is a word, as a pattern; each token is held against it. -1: no fault. */
    private int read(List<Token> tokens, List<Begin> newBegins, List<List<Integer>> newStaffs) {
        String due = "d";
        List<Integer> numbers = new ArrayList<>();
        List<Integer> staff = new ArrayList<>();
        int base = 0;
        for (Token token : tokens) {
            String word = token.word();
            if (!word.matches(due)) {
                return token.place();
            }
            if (word.equals("d")) {
                numbers.clear();
                staff = new ArrayList<>();
                due = "[0-6]";
            } else if (word.equals(";")) {
                newBegins.add(new Begin(numbers.get(0), numbers.get(1), numbers.get(2)));
                newStaffs.add(staff);
                due = newBegins.size() < 3 ? "d" : "nothing";
            } else if (word.matches("[0-9]") && numbers.size() < 3) {
                numbers.add(Integer.parseInt(word));
                due = numbers.size() == 1 ? "[0-6]" : numbers.size() == 2 ? "[0-7]" : "[lrjtc.;]";
            } else if (word.matches("[lrj]")) {
                base = 2 + 8 * "lrj".indexOf(word);
                due = "[0-7]";
            } else if (word.equals("t")) {
                base = 25;
                due = "[1-7]";
            } else {
                staff.add(word.equals(".") ? 0 : word.equals("c") ? 1 : base + Integer.parseInt(word));
                due = staff.size() < 10 ? "[lrjtc.;]" : ";";
            }
        }
        return due.equals("d") || due.equals("nothing") ? -1 : text.length();
    }

    // ---- dancing

    /** Null: it can not be. */
    private static Stand next(Stand s, int sign) {
        if (sign == 0) {
            return s;
        }
        if (sign == 1) {
            return new Stand(s.x, s.y, s.looks, 2);
        }
        if (sign >= 26) {
            return new Stand(s.x, s.y, (s.looks + sign - 25) % 8, s.weight);
        }
        int kind = (sign - 2) / 8;
        int[] way = WAYS[(s.looks + (sign - 2) % 8) % 8];
        Stand to = new Stand(s.x + way[0], s.y + way[1], s.looks, kind);
        boolean isOff = to.x < 0 || to.x > 6 || to.y < 0 || to.y > 6;
        return isOff || kind != 2 && s.weight == kind ? null : to;
    }

    private List<Stand> danced(int d, List<Integer> staff) {
        Begin begin = begins.get(d);
        List<Stand> stands = new ArrayList<>();
        stands.add(new Stand(begin.x, begin.y, begin.looks, 2));
        int broken = broken(d, staff);
        for (int beat = 0; beat < 10; beat++) {
            Stand last = stands.get(beat);
            boolean stays = beat >= staff.size() || broken != NONE && beat >= broken;
            stands.add(stays ? last : next(last, staff.get(beat)));
        }
        return stands;
    }

    private int broken(int d, List<Integer> staff) {
        Begin begin = begins.get(d);
        Stand stand = new Stand(begin.x, begin.y, begin.looks, 2);
        for (int beat = 0; beat < staff.size(); beat++) {
            stand = next(stand, staff.get(beat));
            if (stand == null) {
                return beat;
            }
        }
        return NONE;
    }

    private List<Stand> danced(int d) {
        return danced(d, staffs.get(d));
    }

    private boolean isDancer(int d) {
        return d >= 0 && d < begins.size();
    }

    int sign(int d, int beat) {
        if (!isDancer(d) || beat < 0 || beat > 9) {
            return BAD;
        }
        return beat < staffs.get(d).size() ? staffs.get(d).get(beat) : NONE;
    }

    int stand(int d, int n, int what) {
        if (!isDancer(d) || n < 0 || n > 10 || what < 0 || what > 3) {
            return BAD;
        }
        return danced(d).get(n).told(what);
    }

    int staff(int d, int what) {
        if (!isDancer(d) || what < 0 || what > 4) {
            return BAD;
        }
        List<Stand> stands = danced(d);
        if (what == 0) {
            return staffs.get(d).size();
        }
        if (what == 1) {
            return broken(d, staffs.get(d));
        }
        if (what == 2) {
            return unlikePlaces(stands);
        }
        return what == 3 ? shifts(stands) : home(stands);
    }

    private static int unlikePlaces(List<Stand> stands) {
        Set<List<Integer>> places = new HashSet<>();
        for (Stand stand : stands) {
            places.add(List.of(stand.x, stand.y));
        }
        return places.size();
    }

    private static int shifts(List<Stand> stands) {
        int shifts = 0;
        for (int n = 1; n <= 10; n++) {
            shifts += stands.get(n).weight == stands.get(n - 1).weight ? 0 : 1;
        }
        return shifts;
    }

    private static int home(List<Stand> stands) {
        for (int n = 1; n <= 10; n++) {
            if (stands.get(n).sharesPlace(stands.get(0)) && unlikePlaces(stands.subList(0, n)) > 1) {
                return n;
            }
        }
        return NONE;
    }

    // ---- what is done

    private static List<List<Integer>> copy(List<List<Integer>> from) {
        List<List<Integer>> to = new ArrayList<>();
        for (List<Integer> staff : from) {
            to.add(new ArrayList<>(staff));
        }
        return to;
    }

    private void remember() {
        undos.addLast(copy(staffs));
        if (undos.size() > 10) {
            undos.removeFirst();
        }
    }

    int mirrors(int d) {
        if (!isDancer(d)) {
            return BAD;
        }
        remember();
        staffs.get(d).replaceAll(Model::mirrored);
        return staffs.get(d).size();
    }

    private static int mirrored(int sign) {
        if (sign < 2) {
            return sign;
        }
        if (sign > 25) {
            return 25 + 8 - (sign - 25);
        }
        int kind = (sign - 2) / 8;
        int by = (sign - 2) % 8;
        int newKind = kind == 0 ? 1 : kind == 1 ? 0 : 2;
        return 2 + 8 * newKind + (by == 0 ? 0 : 8 - by);
    }

    int canons(int d, int other, int n) {
        if (!isDancer(d) || !isDancer(other) || d == other || n < 0 || n > 4) {
            return BAD;
        }
        remember();
        List<Integer> staff = new ArrayList<>();
        for (int i = 0; i < n; i++) {
            staff.add(0);
        }
        staff.addAll(staffs.get(other));
        staffs.set(d, new ArrayList<>(staff.subList(0, Math.min(10, staff.size()))));
        return staffs.get(d).size();
    }

    int changes(int d, int beat, int sign) {
        if (!isDancer(d) || beat < 0 || beat >= staffs.get(d).size() || sign < 0 || sign > 32) {
            return BAD;
        }
        if (staffs.get(d).get(beat) == sign) {
            return STATE;
        }
        remember();
        return staffs.get(d).set(beat, sign);
    }

    int adds(int d, int sign) {
        if (!isDancer(d) || sign < 0 || sign > 32) {
            return BAD;
        }
        if (staffs.get(d).size() == 10) {
            return FULL;
        }
        remember();
        staffs.get(d).add(sign);
        return staffs.get(d).size();
    }

    int undo() {
        if (undos.isEmpty()) {
            return STATE;
        }
        staffs = undos.removeLast();
        return undos.size();
    }

    // ---- meetings, ways

    int meet(int d, int other, int what) {
        if (!isDancer(d) || !isDancer(other) || d == other || what < 0 || what > 1) {
            return BAD;
        }
        List<Stand> a = danced(d);
        List<Stand> b = danced(other);
        for (int n = what; n <= 10; n++) {
            if (what == 0 ? a.get(n).sharesPlace(b.get(n))
                : cross(a.get(n - 1), a.get(n), b.get(n - 1), b.get(n))) {
                return n;
            }
        }
        return NONE;
    }

    private static boolean cross(Stand a, Stand toA, Stand b, Stand toB) {
        if (a.sharesPlace(toA) || b.sharesPlace(toB)) {
            return false;
        }
        if (a.sharesPlace(toB) && b.sharesPlace(toA)) {
            return true;
        }
        boolean bothSlant = a.x != toA.x && a.y != toA.y && b.x != toB.x && b.y != toB.y;
        boolean oneSquare = Math.min(a.x, toA.x) == Math.min(b.x, toB.x)
            && Math.min(a.y, toA.y) == Math.min(b.y, toB.y);
        boolean aRises = (toA.x - a.x) * (toA.y - a.y) > 0;
        boolean bRises = (toB.x - b.x) * (toB.y - b.y) > 0;
        return bothSlant && oneSquare && aRises != bRises;
    }

    int fewest(int d, int n, int x, int y, int looks, int k) {
        if (!isDancer(d) || n < 0 || n > 10 || x < 0 || x > 6 || y < 0 || y > 6 || looks < 0 || looks > 7
            || k < -1) {
            return BAD;
        }
        Aim aim = new Aim(danced(d).get(n), x, y, looks);
        List<Integer> way = KNOWN.computeIfAbsent(aim, to -> firstWay(to.from, to.x, to.y, to.looks));
        return k == -1 ? way.size() : k < way.size() ? way.get(k) : NONE;
    }

    /** Broadest first, signs by their numbers: ways of one length come in the order of their signs. */
    private static List<Integer> firstWay(Stand from, int x, int y, int looks) {
        Map<Stand, List<Integer>> ways = new HashMap<>();
        Deque<Stand> queue = new ArrayDeque<>();
        ways.put(from, List.of());
        queue.add(from);
        while (true) {
            Stand stand = queue.removeFirst();
            List<Integer> way = ways.get(stand);
            if (stand.x == x && stand.y == y && stand.looks == looks) {
                return way;
            }
            for (int sign = 1; sign <= 32; sign++) {
                Stand to = next(stand, sign);
                if (to != null && !ways.containsKey(to)) {
                    List<Integer> longer = new ArrayList<>(way);
                    longer.add(sign);
                    ways.put(to, longer);
                    queue.addLast(to);
                }
            }
        }
    }

    // ---- which sign

    int sees(int n, int x, int y) {
        if (begins.isEmpty() || n < 0 || n > 10 || x < 0 || x > 6 || y < 0 || y > 6) {
            return BAD;
        }
        if (seen.size() == 6) {
            return FULL;
        }
        seen.add(new Seen(n, x, y));
        return seen.size();
    }

    int forget() {
        int were = seen.size();
        seen.clear();
        return were;
    }

    private Map<Integer, List<Stand>> possible() {
        Map<Integer, List<Stand>> possible = new HashMap<>();
        int beats = begins.isEmpty() ? 0 : staffs.get(0).size();
        for (int beat = 0; beat < beats; beat++) {
            List<Integer> staff = new ArrayList<>(staffs.get(0));
            staff.set(beat, 0);
            List<Stand> stands = danced(0, staff);
            if (seen.stream().allMatch(s -> stands.get(s.n).x == s.x && stands.get(s.n).y == s.y)) {
                possible.put(beat, stands);
            }
        }
        return possible;
    }

    int unseen() {
        return possible().keySet().stream().mapToInt(beat -> 1 << beat).sum();
    }

    int look() {
        Map<Integer, List<Stand>> possible = possible();
        if (possible.size() <= 1) {
            return NONE;
        }
        int best = NONE;
        int most = 0;
        for (int n = 1; n <= 10; n++) {
            List<Stand> behind = new ArrayList<>();
            for (List<Stand> stands : possible.values()) {
                behind.add(stands.get(n));
            }
            if (unlikePlaces(behind) > most) {
                most = unlikePlaces(behind);
                best = n;
            }
        }
        return best;
    }

    // ---- images

    int keep(int image) {
        if (image != 0 && image != 1) {
            return BAD;
        }
        images.put(image, copy(staffs));
        return begins.size();
    }

    int back(int image) {
        if (image != 0 && image != 1) {
            return BAD;
        }
        if (!images.containsKey(image)) {
            return STATE;
        }
        staffs = copy(images.get(image));
        undos.clear();
        return begins.size();
    }

    int count(int what) {
        switch (what) {
            case 0: return begins.size();
            case 1: return staffs.stream().mapToInt(List::size).sum();
            case 2: return broken();
            case 3: return twos();
            case 4: return seen.size();
            case 5: return text.length();
            case 6: return undos.size();
            default: return BAD;
        }
    }

    private int broken() {
        int broken = 0;
        for (int d = 0; d < begins.size(); d++) {
            broken += staff(d, 1) == NONE ? 0 : 1;
        }
        return broken;
    }

    private int twos() {
        int[][] pairs = {{0, 1}, {0, 2}, {1, 2}};
        int twos = 0;
        for (int[] pair : pairs) {
            twos += meet(pair[0], pair[1], 0) >= 0 || meet(pair[0], pair[1], 1) >= 0 ? 1 : 0;
        }
        return twos;
    }
}
