import java.util.ArrayList;
import java.util.Comparator;
import java.util.HashMap;
import java.util.List;
import java.util.Map;
import java.util.TreeMap;

/**
 * The document once more, written from its definitions and by other means than the program: sorted
 * maps, place by place, and all sets. Throws what the document names.
 */
final class Model {
    private static final int NONE = -1;

    private final List<TreeMap<Integer, Integer>> books = new ArrayList<>();
    private int partBook = NONE;
    private int partLow;
    private int partHigh;
    private int handBook = NONE;
    private boolean isHandLost;
    private int handGave;
    private boolean isHandHolding;
    private int told;
    private int knocks;

    Model() {
        for (int i = 0; i < 3; i++) {
            books.add(new TreeMap<>());
        }
    }

    private static void argument(boolean isFine) {
        if (!isFine) {
            throw new IllegalArgumentException();
        }
    }

    private static void state(boolean isFine) {
        if (!isFine) {
            throw new IllegalStateException();
        }
    }

    private TreeMap<Integer, Integer> at(int book) {
        if (book < 0 || book > 2) {
            throw new IndexOutOfBoundsException();
        }
        return books.get(book);
    }

    private static boolean isIn(int n, int least, int most) {
        return least <= n && n <= most;
    }

    private static int code(int from, int to) {
        argument(isIn(from, 0, 99) && isIn(to, 0, 99) && from <= to);
        return 100 * to + from;
    }

    private static boolean holds(int code, int place) {
        return code % 100 <= place && place <= code / 100;
    }

    private static boolean meet(int code, int other) {
        for (int place = 0; place < 100; place++) {
            if (holds(code, place) && holds(other, place)) {
                return true;
            }
        }
        return false;
    }

    private int refuse() {
        told++;
        return -9;
    }

    private void moved(int book) {
        isHandLost |= handBook == book;
    }

    private void remove(int book, int code) {
        if (at(book).remove(code) != null) {
            moved(book);
        }
    }

    private static int or(Integer note, int other) {
        return note == null ? other : note;
    }

    int put(int book, int from, int to, int note) {
        TreeMap<Integer, Integer> map = at(book);
        int code = code(from, to);
        argument(isIn(note, 0, 99));
        if (!map.containsKey(code)) {
            if (map.size() == 8) {
                return refuse();
            }
            moved(book);
        }
        return or(map.put(code, note), NONE);
    }

    int add(int book, int from, int to, int note) {
        TreeMap<Integer, Integer> map = at(book);
        int code = code(from, to);
        argument(isIn(note, 0, 99));
        return map.containsKey(code) ? map.get(code) : put(book, from, to, note);
    }

    int more(int book, int from, int to, int by) {
        TreeMap<Integer, Integer> map = at(book);
        int code = code(from, to);
        argument(isIn(by, 0, 99));
        int note = (or(map.get(code), 0) + by) % 100;
        return put(book, from, to, note) == -9 ? -9 : note;
    }

    int change(int book, int from, int to, int note) {
        TreeMap<Integer, Integer> map = at(book);
        int code = code(from, to);
        argument(isIn(note, 0, 99));
        return or(map.replace(code, note), NONE);
    }

    int changeIf(int book, int from, int to, int old, int note) {
        TreeMap<Integer, Integer> map = at(book);
        int code = code(from, to);
        argument(isIn(old, 0, 99) && isIn(note, 0, 99));
        return map.replace(code, old, note) ? 1 : 0;
    }

    int take(int book, int from, int to) {
        int note = or(at(book).get(code(from, to)), NONE);
        remove(book, code(from, to));
        return note;
    }

    int takeIf(int book, int from, int to, int note) {
        TreeMap<Integer, Integer> map = at(book);
        int code = code(from, to);
        argument(isIn(note, 0, 99));
        if (or(map.get(code), NONE) != note) {
            return 0;
        }
        remove(book, code);
        return 1;
    }

    int takeNote(int book, int note) {
        TreeMap<Integer, Integer> map = at(book);
        argument(isIn(note, 0, 99));
        for (int code : map.keySet()) {
            if (map.get(code) == note) {
                remove(book, code);
                return 1;
            }
        }
        return 0;
    }

    private int drawOf(int book, List<Integer> codes, boolean isLast) {
        if (codes.isEmpty()) {
            return NONE;
        }
        int code = codes.get(isLast ? codes.size() - 1 : 0);
        remove(book, code);
        return code;
    }

    int draw(int book, boolean isLast) {
        return drawOf(book, new ArrayList<>(at(book).keySet()), isLast);
    }

    int clear(int book) {
        List<Integer> codes = new ArrayList<>(at(book).keySet());
        for (int code : codes) {
            remove(book, code);
        }
        return codes.size();
    }

    int pour(int book, int other) {
        TreeMap<Integer, Integer> map = at(book);
        TreeMap<Integer, Integer> both = new TreeMap<>(map);
        both.putAll(at(other));
        if (both.size() > 8) {
            return refuse();
        }
        int came = both.size() - map.size();
        if (came > 0) {
            moved(book);
        }
        books.set(book, both);
        return came;
    }

    int copy(int book, int other) {
        at(book);
        books.set(book, new TreeMap<>(at(other)));
        moved(book);
        if (partBook == book) {
            partBook = NONE;
        }
        return at(book).size();
    }

    int sift(int book, int other, boolean isKept) {
        TreeMap<Integer, Integer> map = at(book);
        at(other);
        argument(book != other);
        int went = 0;
        for (int code : new ArrayList<>(map.keySet())) {
            if (at(other).containsKey(code) ? !isKept : isKept) {
                remove(book, code);
                went++;
            }
        }
        return went;
    }

    private boolean isInPart(int to) {
        return (partLow == NONE || partLow <= to) && (partHigh == NONE || to <= partHigh);
    }

    private List<Integer> partCodes() {
        List<Integer> codes = new ArrayList<>();
        for (int code : at(partBook).keySet()) {
            if (isInPart(code / 100)) {
                codes.add(code);
            }
        }
        return codes;
    }

    int part(int book, int low, int high) {
        at(book);
        argument(isIn(low, -1, 99) && isIn(high, -1, 99) && (low < 0 || high < 0 || low <= high));
        partBook = book;
        partLow = low;
        partHigh = high;
        return partCodes().size();
    }

    int narrow(int low, int high) {
        argument(isIn(low, 0, 99) && isIn(high, 0, 99) && low <= high);
        state(partBook != NONE);
        if (partLow != NONE && low < partLow || partHigh != NONE && high > partHigh) {
            return refuse();
        }
        return part(partBook, low, high);
    }

    int partPut(int from, int to, int note) {
        code(from, to);
        argument(isIn(note, 0, 99));
        state(partBook != NONE);
        return isInPart(to) ? put(partBook, from, to, note) : refuse();
    }

    int partTake(int from, int to) {
        int code = code(from, to);
        state(partBook != NONE);
        return partCodes().contains(code) ? take(partBook, from, to) : NONE;
    }

    int partDraw(boolean isLast) {
        state(partBook != NONE);
        return drawOf(partBook, partCodes(), isLast);
    }

    int partClear() {
        state(partBook != NONE);
        List<Integer> codes = partCodes();
        for (int code : codes) {
            remove(partBook, code);
        }
        return codes.size();
    }

    int ofPart(int what) {
        argument(isIn(what, 0, 5));
        state(partBook != NONE);
        List<Integer> codes = partCodes();
        int first = codes.isEmpty() ? NONE : codes.get(0);
        int last = codes.isEmpty() ? NONE : codes.get(codes.size() - 1);
        return new int[] {partBook, partLow, partHigh, codes.size(), first, last}[what];
    }

    String partText() {
        state(partBook != NONE);
        return told(partBook, partCodes());
    }

    private String told(int book, Iterable<Integer> codes) {
        List<String> words = new ArrayList<>();
        for (int code : codes) {
            words.add(code % 100 + "-" + code / 100 + ":" + at(book).get(code));
        }
        return String.join(" ", words);
    }

    int hand(int book) {
        int size = at(book).size();
        handBook = book;
        isHandLost = false;
        handGave = NONE;
        isHandHolding = false;
        return size;
    }

    int next() {
        state(handBook != NONE);
        if (isHandLost) {
            return refuse();
        }
        Integer code = at(handBook).higherKey(handGave);
        if (code == null) {
            return NONE;
        }
        handGave = code;
        isHandHolding = true;
        return code;
    }

    int renote(int note) {
        argument(isIn(note, 0, 99));
        state(handBook != NONE);
        return isHandLost || !isHandHolding ? refuse() : at(handBook).put(handGave, note);
    }

    int takeOut() {
        state(handBook != NONE);
        if (isHandLost || !isHandHolding) {
            return refuse();
        }
        at(handBook).remove(handGave);
        isHandHolding = false;
        return at(handBook).size();
    }

    int ofBook(int book, int what) {
        TreeMap<Integer, Integer> map = at(book);
        argument(isIn(what, 0, 5));
        int check = 0;
        for (Map.Entry<Integer, Integer> entry : map.entrySet()) {
            int code = entry.getKey();
            int note = entry.getValue();
            check += (code | note) - (code & note);
        }
        if (map.isEmpty()) {
            return new int[] {0, NONE, NONE, NONE, NONE, 0}[what];
        }
        return new int[] {map.size(), map.firstKey(), map.lastKey(), map.firstEntry().getValue(),
            map.lastEntry().getValue(), check}[what];
    }

    int noteOf(int book, int from, int to, int other) {
        TreeMap<Integer, Integer> map = at(book);
        int code = code(from, to);
        argument(isIn(other, -1, 99));
        return map.getOrDefault(code, other);
    }

    boolean has(int book, int from, int to) {
        return at(book).containsKey(code(from, to));
    }

    boolean hasNote(int book, int note) {
        TreeMap<Integer, Integer> map = at(book);
        argument(isIn(note, 0, 99));
        return map.containsValue(note);
    }

    int near(int book, int from, int to, int how) {
        TreeMap<Integer, Integer> map = at(book);
        int code = code(from, to);
        argument(isIn(how, 0, 5));
        Integer found;
        switch (how) {
            case 0:
                found = map.lowerKey(code);
                break;
            case 1:
            case 4:
                found = map.floorKey(code);
                break;
            case 3:
                found = map.higherKey(code);
                break;
            default:
                found = map.ceilingKey(code);
                break;
        }
        return found == null ? NONE : how >= 4 ? map.get(found) : found;
    }

    int many(int book, int from, int to, int how) {
        TreeMap<Integer, Integer> map = at(book);
        int code = code(from, to);
        argument(isIn(how, 0, 3));
        return how <= 1 ? map.headMap(code, how == 1).size() : map.tailMap(code, how == 2).size();
    }

    int between(int book, int from, int to, int fromOther, int toOther) {
        TreeMap<Integer, Integer> map = at(book);
        int code = code(from, to);
        int codeOther = code(fromOther, toOther);
        return code > codeOther ? refuse() : map.subMap(code, true, codeOther, true).size();
    }

    String text(int book, boolean isBack) {
        TreeMap<Integer, Integer> map = at(book);
        return told(book, isBack ? map.descendingKeySet() : map.keySet());
    }

    boolean areSame(int book, int other) {
        return at(book).equals(at(other));
    }

    /** Each time the first one of all whose FROM is above the TO of the one chosen last. */
    private List<Integer> chosenOf(int book) {
        List<Integer> codes = new ArrayList<>();
        int end = NONE;
        while (true) {
            Integer found = null;
            for (int code : at(book).descendingKeySet()) {
                found = code % 100 > end ? Integer.valueOf(code) : found;
            }
            if (found == null) {
                return codes;
            }
            codes.add(found);
            end = found / 100;
        }
    }

    int most(int book) {
        return chosenOf(book).size();
    }

    int chosen(int book, int k) {
        at(book);
        argument(k >= 0);
        List<Integer> codes = chosenOf(book);
        return k < codes.size() ? codes.get(k) : NONE;
    }

    private List<Integer> ofSet(int book, int set) {
        List<Integer> codes = new ArrayList<>(at(book).keySet());
        argument(set >= 0 && set < Math.pow(2, codes.size()));
        List<Integer> chosen = new ArrayList<>();
        for (int rank = 0; rank < codes.size(); rank++) {
            if (set / (int) Math.pow(2, rank) % 2 == 1) {
                chosen.add(codes.get(rank));
            }
        }
        return chosen;
    }

    int choice(int book, int set) {
        List<Integer> codes = ofSet(book, set);
        for (int code : codes) {
            for (int other : codes) {
                if (code != other && meet(code, other)) {
                    return NONE;
                }
            }
        }
        return codes.size();
    }

    int unheld(int book, int set) {
        List<Integer> codes = ofSet(book, set);
        int count = 0;
        for (int code : at(book).keySet()) {
            count += codes.stream().noneMatch(other -> holds(code, other / 100)) ? 1 : 0;
        }
        return count;
    }

    int holders(int book, int place) {
        TreeMap<Integer, Integer> map = at(book);
        argument(isIn(place, 0, 99));
        int set = 0;
        int worth = 1;
        for (int code : map.keySet()) {
            set += holds(code, place) ? worth : 0;
            worth *= 2;
        }
        return set;
    }

    int deepest(int book, boolean isPlace) {
        at(book);
        int depth = 0;
        int deep = NONE;
        for (int place = 0; place < 100; place++) {
            int count = Integer.bitCount(holders(book, place));
            if (count > depth) {
                depth = count;
                deep = place;
            }
        }
        return isPlace ? deep : depth;
    }

    private Map<Integer, Integer> roomsOf(int book) {
        List<Integer> codes = new ArrayList<>(at(book).keySet());
        codes.sort(Comparator.comparingInt((Integer code) -> code % 100).thenComparingInt(code -> code / 100));
        Map<Integer, Integer> rooms = new HashMap<>();
        for (int code : codes) {
            int room = 0;
            while (isTaken(rooms, room, code)) {
                room++;
            }
            rooms.put(code, room);
        }
        return rooms;
    }

    private static boolean isTaken(Map<Integer, Integer> rooms, int room, int code) {
        return rooms.entrySet().stream().anyMatch(e -> e.getValue() == room && meet(e.getKey(), code));
    }

    int rooms(int book) {
        return (int) roomsOf(book).values().stream().distinct().count();
    }

    int roomOf(int book, int from, int to) {
        at(book);
        int code = code(from, to);
        return roomsOf(book).getOrDefault(code, NONE);
    }

    /** The codes of the links, or null. */
    private List<Integer> linksOf(int book, int a, int b) {
        List<Integer> codes = new ArrayList<>();
        int p = a;
        while (p <= b) {
            int best = NONE;
            for (int code : at(book).keySet()) {
                boolean isBetter = best == NONE || code / 100 > best / 100
                    || code / 100 == best / 100 && code % 100 > best % 100;
                best = holds(code, p) && isBetter ? code : best;
            }
            if (best == NONE) {
                return null;
            }
            codes.add(best);
            p = best / 100 + 1;
        }
        return codes;
    }

    int links(int book, int a, int b) {
        at(book);
        argument(isIn(a, 0, 99) && isIn(b, 0, 99) && a <= b);
        List<Integer> codes = linksOf(book, a, b);
        return codes == null ? NONE : codes.size();
    }

    int link(int book, int a, int b, int k) {
        at(book);
        argument(isIn(a, 0, 99) && isIn(b, 0, 99) && a <= b && k >= 0);
        List<Integer> codes = linksOf(book, a, b);
        return codes == null || k >= codes.size() ? NONE : codes.get(k);
    }

    int house(int what) {
        argument(isIn(what, 0, 4));
        int all = at(0).size() + at(1).size() + at(2).size();
        int hand = handBook == NONE ? 0 : isHandLost ? 2 : 1;
        return new int[] {all, partBook, hand, told, knocks}[what];
    }

    int knock() {
        return ++knocks;
    }

    boolean isSound() {
        return isTrueOf(0) && isTrueOf(1) && isTrueOf(2);
    }

    private boolean isTrueOf(int book) {
        int size = at(book).size();
        int fewest = NONE;
        for (int set = 0; set < 1 << size; set++) {
            List<Integer> codes = ofSet(book, set);
            if (!isSetTrue(book, set, codes)) {
                return false;
            }
            if (covers(book, codes) && (fewest == NONE || codes.size() < fewest)) {
                fewest = codes.size();
            }
        }
        if (size == 0) {
            return most(book) == 0 && rooms(book) == 0 && deepest(book, false) == 0;
        }
        int links = links(book, at(book).firstKey() % 100, at(book).lastKey() / 100);
        return links == fewest && rooms(book) == deepest(book, false);
    }

    private boolean isSetTrue(int book, int set, List<Integer> codes) {
        List<Integer> chosen = chosenOf(book);
        boolean isTrue = codes.stream().anyMatch(c -> codes.stream().anyMatch(o -> !meet(c, o)))
            || codes.size() <= deepest(book, false);
        if (choice(book, set) != NONE) {
            isTrue &= codes.size() <= chosen.size();
            for (int k = 0; isTrue && k < codes.size(); k++) {
                isTrue = codes.get(k) / 100 >= chosen.get(k) / 100;
            }
        }
        return isTrue && (unheld(book, set) > 0 || codes.size() >= chosen.size())
            && (!codes.equals(chosen) || unheld(book, set) == 0);
    }

    private boolean covers(int book, List<Integer> codes) {
        if (at(book).isEmpty()) {
            return false;
        }
        for (int p = at(book).firstKey() % 100; p <= at(book).lastKey() / 100; p++) {
            int place = p;
            if (codes.stream().noneMatch(code -> holds(code, place))) {
                return false;
            }
        }
        return true;
    }

    long digest() {
        List<Integer> values = new ArrayList<>();
        for (int what = 0; what < 5; what++) {
            values.add(house(what));
        }
        for (int book = 0; book < 3; book++) {
            for (int what = 0; what < 6; what++) {
                values.add(ofBook(book, what));
            }
            values.addAll(List.of(most(book), chosen(book, 0), chosen(book, 1), chosen(book, 2),
                deepest(book, false), deepest(book, true), rooms(book)));
            for (int code : at(book).keySet()) {
                int from = code % 100;
                int to = code / 100;
                values.addAll(List.of(code, at(book).get(code), roomOf(book, from, to),
                    near(book, from, to, 0), near(book, from, to, 3)));
            }
        }
        for (int what = 0; partBook != NONE && what < 6; what++) {
            values.add(ofPart(what));
        }
        values.add(1);
        long d = 7945;
        for (int value : values) {
            d = d * 31 + value;
        }
        return d;
    }
}
