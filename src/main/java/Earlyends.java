/**
 * Three books of spans on a line of a hundred places. The answers and the changes of state are
 * those that ../shared/DOC.md promises; words in capitals there are plain words here.
 */
public final class Earlyends {
    private static final int NONE = -1;
    private static final int REFUSED = -9;
    private static final int BOOKS = 3;
    private static final int LIMIT = 8;
    private static final int PLACES = 100;
    private static final int NOTES = 100;

    private final Book[] books = new Book[BOOKS];
    private final Part thePart = new Part();
    private final Hand theHand = new Hand();
    private final Chain chain = new Chain();
    private final Housing housing = new Housing();
    private final Trial trial = new Trial();
    private int refusals;
    private int knocks;

    public Earlyends() {
        for (int i = 0; i < BOOKS; i++) {
            books[i] = new Book();
        }
    }

    // ---- spans come and go

    public int put(int book, int from, int to, int note)
            throws IndexOutOfBoundsException, IllegalArgumentException {
        Book spans = bookAt(book);
        int code = codeOfSpan(from, to);
        needNote(note);
        return setOrBring(spans, code, note);
    }

    public int add(int book, int from, int to, int note)
            throws IndexOutOfBoundsException, IllegalArgumentException {
        Book spans = bookAt(book);
        int code = codeOfSpan(from, to);
        needNote(note);
        int rank = spans.rankOf(code);
        return rank == NONE ? bring(spans, code, note, NONE) : spans.noteAt(rank);
    }

    public int more(int book, int from, int to, int by)
            throws IndexOutOfBoundsException, IllegalArgumentException {
        Book spans = bookAt(book);
        int code = codeOfSpan(from, to);
        needNote(by);
        int rank = spans.rankOf(code);
        if (rank == NONE) {
            return bring(spans, code, by, by);
        }
        int note = (spans.noteAt(rank) + by) % NOTES;
        spans.swapNote(rank, note);
        return note;
    }

    public int change(int book, int from, int to, int note)
            throws IndexOutOfBoundsException, IllegalArgumentException {
        Book spans = bookAt(book);
        int code = codeOfSpan(from, to);
        needNote(note);
        return spans.swapNote(spans.rankOf(code), note);
    }

    public int changeIf(int book, int from, int to, int old, int note)
            throws IndexOutOfBoundsException, IllegalArgumentException {
        Book spans = bookAt(book);
        int code = codeOfSpan(from, to);
        needNote(old);
        needNote(note);
        int rank = spans.rankOf(code);
        if (spans.noteAt(rank) != old) {
            return 0;
        }
        spans.swapNote(rank, note);
        return 1;
    }

    public int take(int book, int from, int to)
            throws IndexOutOfBoundsException, IllegalArgumentException {
        Book spans = bookAt(book);
        int code = codeOfSpan(from, to);
        return removeTold(spans, spans.rankOf(code));
    }

    public int takeIf(int book, int from, int to, int note)
            throws IndexOutOfBoundsException, IllegalArgumentException {
        Book spans = bookAt(book);
        int code = codeOfSpan(from, to);
        needNote(note);
        int rank = spans.rankOf(code);
        if (spans.noteAt(rank) != note) {
            return 0;
        }
        spans.removeAt(rank);
        return 1;
    }

    public int takeNote(int book, int note)
            throws IndexOutOfBoundsException, IllegalArgumentException {
        Book spans = bookAt(book);
        needNote(note);
        int rank = spans.rankOfNote(note);
        if (rank == NONE) {
            return 0;
        }
        spans.removeAt(rank);
        return 1;
    }

    public int draw(int book, boolean isLast) throws IndexOutOfBoundsException {
        Book spans = bookAt(book);
        return drawWithin(spans, 0, spans.count(), isLast);
    }

    public int clear(int book) throws IndexOutOfBoundsException {
        Book spans = bookAt(book);
        return spans.removeRange(0, spans.count());
    }

    public int pour(int book, int other) throws IndexOutOfBoundsException {
        Book spans = bookAt(book);
        Book source = bookAt(other);
        int coming = source.countMissingIn(spans);
        if (spans.count() + coming > LIMIT) {
            return refuse();
        }
        for (int rank = 0; rank < source.count(); rank++) {
            setOrBring(spans, source.codeAt(rank), source.noteAt(rank));
        }
        return coming;
    }

    public int copy(int book, int other) throws IndexOutOfBoundsException {
        Book spans = bookAt(book);
        Book source = bookAt(other);
        spans.becomeAs(source);
        if (thePart.book == book) {
            thePart.book = NONE;
        }
        return spans.count();
    }

    public int sift(int book, int other, boolean isKept)
            throws IndexOutOfBoundsException, IllegalArgumentException {
        Book spans = bookAt(book);
        Book sieve = bookAt(other);
        if (book == other) {
            throw new IllegalArgumentException("a book cannot be sifted by itself");
        }
        int before = spans.count();
        for (int rank = before - 1; rank >= 0; rank--) {
            boolean isInBoth = sieve.rankOf(spans.codeAt(rank)) != NONE;
            if (isInBoth != isKept) {
                spans.removeAt(rank);
            }
        }
        return before - spans.count();
    }

    // ---- the part

    public int part(int book, int low, int high)
            throws IndexOutOfBoundsException, IllegalArgumentException {
        Book spans = bookAt(book);
        if (low < NONE || low >= PLACES || high < NONE || high >= PLACES) {
            throw new IllegalArgumentException("low and high are -1 to 99");
        }
        if (low != NONE && high != NONE && low > high) {
            throw new IllegalArgumentException("low is above high");
        }
        thePart.book = book;
        thePart.low = low;
        thePart.high = high;
        return thePart.countIn(spans);
    }

    public int narrow(int low, int high) throws IllegalArgumentException, IllegalStateException {
        needStretch(low, high);
        Book spans = bookOfPart();
        if (!thePart.isWithin(low) || !thePart.isWithin(high)) {
            return refuse();
        }
        thePart.low = low;
        thePart.high = high;
        return thePart.countIn(spans);
    }

    public int partPut(int from, int to, int note)
            throws IllegalArgumentException, IllegalStateException {
        int code = codeOfSpan(from, to);
        needNote(note);
        Book spans = bookOfPart();
        return thePart.isWithin(to) ? setOrBring(spans, code, note) : refuse();
    }

    public int partTake(int from, int to) throws IllegalArgumentException, IllegalStateException {
        int code = codeOfSpan(from, to);
        Book spans = bookOfPart();
        return thePart.isWithin(to) ? removeTold(spans, spans.rankOf(code)) : NONE;
    }

    public int partDraw(boolean isLast) throws IllegalStateException {
        Book spans = bookOfPart();
        return drawWithin(spans, thePart.startIn(spans), thePart.endIn(spans), isLast);
    }

    public int partClear() throws IllegalStateException {
        Book spans = bookOfPart();
        return spans.removeRange(thePart.startIn(spans), thePart.endIn(spans));
    }

    public int ofPart(int what) throws IllegalArgumentException, IllegalStateException {
        needUpTo(what, 5);
        Book spans = bookOfPart();
        boolean isEmpty = thePart.countIn(spans) == 0;
        switch (what) {
            case 0:
                return thePart.book;
            case 1:
                return thePart.low;
            case 2:
                return thePart.high;
            case 3:
                return thePart.countIn(spans);
            case 4:
                return isEmpty ? NONE : spans.codeAt(thePart.startIn(spans));
            default:
                return isEmpty ? NONE : spans.codeAt(thePart.endIn(spans) - 1);
        }
    }

    public String partText() throws IllegalStateException {
        Book spans = bookOfPart();
        return spans.tell(thePart.startIn(spans), thePart.endIn(spans), false);
    }

    // ---- the hand

    public int hand(int book) throws IndexOutOfBoundsException {
        Book spans = bookAt(book);
        theHand.book = book;
        theHand.seenMoves = spans.moves();
        theHand.nextRank = 0;
        theHand.isHolding = false;
        return spans.count();
    }

    public int next() throws IllegalStateException {
        Book spans = bookOfHand();
        if (theHand.isLost(spans)) {
            return refuse();
        }
        if (theHand.nextRank >= spans.count()) {
            return NONE;
        }
        int code = spans.codeAt(theHand.nextRank);
        theHand.nextRank++;
        theHand.isHolding = true;
        return code;
    }

    public int renote(int note) throws IllegalArgumentException, IllegalStateException {
        needNote(note);
        Book spans = bookOfHand();
        if (theHand.isLost(spans) || !theHand.isHolding) {
            return refuse();
        }
        return spans.swapNote(theHand.nextRank - 1, note);
    }

    public int takeOut() throws IllegalStateException {
        Book spans = bookOfHand();
        if (theHand.isLost(spans) || !theHand.isHolding) {
            return refuse();
        }
        theHand.nextRank--;
        spans.removeAt(theHand.nextRank);
        theHand.isHolding = false;
        theHand.seenMoves = spans.moves();
        return spans.count();
    }

    // ---- what is asked of a row

    public int ofBook(int book, int what)
            throws IndexOutOfBoundsException, IllegalArgumentException {
        Book spans = bookAt(book);
        needUpTo(what, 5);
        int last = spans.count() - 1;
        switch (what) {
            case 0:
                return spans.count();
            case 1:
                return spans.codeAt(0);
            case 2:
                return spans.codeAt(last);
            case 3:
                return spans.noteAt(0);
            case 4:
                return spans.noteAt(last);
            default:
                return spans.checkSum();
        }
    }

    public int noteOf(int book, int from, int to, int other)
            throws IndexOutOfBoundsException, IllegalArgumentException {
        Book spans = bookAt(book);
        int code = codeOfSpan(from, to);
        if (other != NONE) {
            needNote(other);
        }
        int rank = spans.rankOf(code);
        return rank == NONE ? other : spans.noteAt(rank);
    }

    public boolean has(int book, int from, int to)
            throws IndexOutOfBoundsException, IllegalArgumentException {
        Book spans = bookAt(book);
        return spans.rankOf(codeOfSpan(from, to)) != NONE;
    }

    public boolean hasNote(int book, int note)
            throws IndexOutOfBoundsException, IllegalArgumentException {
        Book spans = bookAt(book);
        needNote(note);
        return spans.rankOfNote(note) != NONE;
    }

    public int near(int book, int from, int to, int how)
            throws IndexOutOfBoundsException, IllegalArgumentException {
        Book spans = bookAt(book);
        int code = codeOfSpan(from, to);
        needUpTo(how, 5);
        int below = spans.countBelow(code);
        int notAbove = spans.countBelow(code + 1);
        switch (how) {
            case 0:
                return spans.codeAt(below - 1);
            case 1:
                return spans.codeAt(notAbove - 1);
            case 2:
                return spans.codeAt(below);
            case 3:
                return spans.codeAt(notAbove);
            case 4:
                return spans.noteAt(notAbove - 1);
            default:
                return spans.noteAt(below);
        }
    }

    public int many(int book, int from, int to, int how)
            throws IndexOutOfBoundsException, IllegalArgumentException {
        Book spans = bookAt(book);
        int code = codeOfSpan(from, to);
        needUpTo(how, 3);
        int below = spans.countBelow(code);
        int notAbove = spans.countBelow(code + 1);
        switch (how) {
            case 0:
                return below;
            case 1:
                return notAbove;
            case 2:
                return spans.count() - below;
            default:
                return spans.count() - notAbove;
        }
    }

    public int between(int book, int from, int to, int fromOther, int toOther)
            throws IndexOutOfBoundsException, IllegalArgumentException {
        Book spans = bookAt(book);
        int code = codeOfSpan(from, to);
        int codeOther = codeOfSpan(fromOther, toOther);
        if (code > codeOther) {
            return refuse();
        }
        return spans.countBelow(codeOther + 1) - spans.countBelow(code);
    }

    public String text(int book, boolean isBack) throws IndexOutOfBoundsException {
        Book spans = bookAt(book);
        return spans.tell(0, spans.count(), isBack);
    }

    public boolean areSame(int book, int other) throws IndexOutOfBoundsException {
        Book spans = bookAt(book);
        return spans.isLike(bookAt(other));
    }

    // ---- what lies apart, and what is held

    public int most(int book) throws IndexOutOfBoundsException {
        chain.fillChosen(bookAt(book));
        return chain.count;
    }

    public int chosen(int book, int k) throws IndexOutOfBoundsException, IllegalArgumentException {
        Book spans = bookAt(book);
        needNotBelowZero(k);
        chain.fillChosen(spans);
        return spans.codeAt(chain.rankAt(k));
    }

    public int choice(int book, int set)
            throws IndexOutOfBoundsException, IllegalArgumentException {
        Book spans = bookAt(book);
        needSet(spans, set);
        for (int rank = 0; rank < spans.count(); rank++) {
            if (isInSet(set, rank) && (spans.meeting(rank) & set) != 1 << rank) {
                return NONE;
            }
        }
        return Integer.bitCount(set);
    }

    public int unheld(int book, int set)
            throws IndexOutOfBoundsException, IllegalArgumentException {
        Book spans = bookAt(book);
        needSet(spans, set);
        return spans.count() - Integer.bitCount(spans.holdingEndsOf(set));
    }

    public int holders(int book, int place)
            throws IndexOutOfBoundsException, IllegalArgumentException {
        Book spans = bookAt(book);
        needPlace(place);
        return spans.holding(place);
    }

    public int deepest(int book, boolean isPlace) throws IndexOutOfBoundsException {
        Book spans = bookAt(book);
        int place = spans.deepPlace();
        return isPlace ? place : spans.depthAt(place);
    }

    public int rooms(int book) throws IndexOutOfBoundsException {
        housing.fill(bookAt(book));
        return housing.count;
    }

    public int roomOf(int book, int from, int to)
            throws IndexOutOfBoundsException, IllegalArgumentException {
        Book spans = bookAt(book);
        int code = codeOfSpan(from, to);
        housing.fill(spans);
        return housing.roomAt(spans.rankOf(code));
    }

    public int links(int book, int a, int b)
            throws IndexOutOfBoundsException, IllegalArgumentException {
        Book spans = bookAt(book);
        needStretch(a, b);
        return chain.fillLinks(spans, a, b) ? chain.count : NONE;
    }

    public int link(int book, int a, int b, int k)
            throws IndexOutOfBoundsException, IllegalArgumentException {
        Book spans = bookAt(book);
        needStretch(a, b);
        needNotBelowZero(k);
        return chain.fillLinks(spans, a, b) ? spans.codeAt(chain.rankAt(k)) : NONE;
    }

    // ---- the house

    public int house(int what) throws IllegalArgumentException {
        needUpTo(what, 4);
        switch (what) {
            case 0:
                return countOfAll();
            case 1:
                return thePart.book;
            case 2:
                return stateOfHand();
            case 3:
                return refusals;
            default:
                return knocks;
        }
    }

    public int knock() {
        knocks++;
        return knocks;
    }

    public boolean isSound() {
        for (int i = 0; i < BOOKS; i++) {
            trial.measure(books[i]);
            if (!trial.passes(books[i])) {
                return false;
            }
        }
        return !isBook(thePart.book) || thePart.isTrueTo(books[thePart.book]);
    }

    public long digest() {
        long d = 7945;
        for (int what = 0; what <= 4; what++) {
            d = d * 31 + house(what);
        }
        for (int book = 0; book < BOOKS; book++) {
            d = digestSpans(digestBook(d, book), book);
        }
        if (isBook(thePart.book)) {
            for (int what = 0; what <= 5; what++) {
                d = d * 31 + ofPart(what);
            }
        }
        return d * 31 + (isSound() ? 1 : 0);
    }

    private long digestBook(long start, int book) {
        long d = start;
        for (int what = 0; what <= 5; what++) {
            d = d * 31 + ofBook(book, what);
        }
        d = d * 31 + most(book);
        for (int k = 0; k <= 2; k++) {
            d = d * 31 + chosen(book, k);
        }
        d = d * 31 + deepest(book, false);
        d = d * 31 + deepest(book, true);
        return d * 31 + rooms(book);
    }

    private long digestSpans(long start, int book) {
        long d = start;
        Book spans = bookAt(book);
        for (int rank = 0; rank < spans.count(); rank++) {
            int from = spans.fromAt(rank);
            int to = spans.toAt(rank);
            d = d * 31 + spans.codeAt(rank);
            d = d * 31 + spans.noteAt(rank);
            d = d * 31 + roomOf(book, from, to);
            d = d * 31 + near(book, from, to, 0);
            d = d * 31 + near(book, from, to, 3);
        }
        return d;
    }

    private int countOfAll() {
        int count = 0;
        for (int i = 0; i < BOOKS; i++) {
            count += books[i].count();
        }
        return count;
    }

    private int stateOfHand() {
        if (!isBook(theHand.book)) {
            return 0;
        }
        return theHand.isLost(books[theHand.book]) ? 2 : 1;
    }

    // ---- steps that several calls share

    private int refuse() {
        refusals++;
        return REFUSED;
    }

    private int setOrBring(Book spans, int code, int note) {
        int rank = spans.rankOf(code);
        return rank == NONE ? bring(spans, code, note, NONE) : spans.swapNote(rank, note);
    }

    private int bring(Book spans, int code, int note, int answer) {
        if (spans.count() >= LIMIT) {
            return refuse();
        }
        spans.insert(code, note);
        return answer;
    }

    private static int removeTold(Book spans, int rank) {
        int note = spans.noteAt(rank);
        spans.removeAt(rank);
        return note;
    }

    private static int drawWithin(Book spans, int start, int end, boolean isLast) {
        if (start >= end) {
            return NONE;
        }
        int rank = isLast ? end - 1 : start;
        int code = spans.codeAt(rank);
        spans.removeAt(rank);
        return code;
    }

    // ---- what a call needs, or throws

    private static boolean isBook(int book) {
        return book >= 0 && book < BOOKS;
    }

    private Book bookAt(int book) {
        if (!isBook(book)) {
            throw new IndexOutOfBoundsException("there is no such book");
        }
        return books[book];
    }

    private Book bookOfPart() {
        if (!isBook(thePart.book)) {
            throw new IllegalStateException("there is no part");
        }
        return books[thePart.book];
    }

    private Book bookOfHand() {
        if (!isBook(theHand.book)) {
            throw new IllegalStateException("there is no hand");
        }
        return books[theHand.book];
    }

    private static int codeOfSpan(int from, int to) {
        if (from < 0 || to < from || to >= PLACES) {
            throw new IllegalArgumentException("that is no span");
        }
        return PLACES * to + from;
    }

    private static void needStretch(int a, int b) {
        if (a < 0 || b < a || b >= PLACES) {
            throw new IllegalArgumentException("that is no stretch of places");
        }
    }

    private static void needPlace(int place) {
        if (place < 0 || place >= PLACES) {
            throw new IllegalArgumentException("a place is 0 to 99");
        }
    }

    private static void needNote(int note) {
        if (note < 0 || note >= NOTES) {
            throw new IllegalArgumentException("a note is 0 to 99");
        }
    }

    private static void needUpTo(int what, int last) {
        if (what < 0 || what > last) {
            throw new IllegalArgumentException("there is no such question");
        }
    }

    private static void needNotBelowZero(int k) {
        if (k < 0) {
            throw new IllegalArgumentException("k is below 0");
        }
    }

    private static void needSet(Book spans, int set) {
        if (set < 0 || set >= 1 << spans.count()) {
            throw new IllegalArgumentException("that is no set of spans of the book");
        }
    }

    private static boolean isInSet(int set, int rank) {
        return (set >> rank & 1) == 1;
    }

    /** The spans of one book in sequence, each with its note. */
    private static final class Book {
        private final int[] codes = new int[LIMIT];
        private final int[] notes = new int[LIMIT];
        private int size;
        private int moves;

        int count() {
            return size;
        }

        /** Rises with each span that comes or goes, and with each copy: a hand is lost by that. */
        int moves() {
            return moves;
        }

        int codeAt(int rank) {
            return rank >= 0 && rank < size ? codes[rank] : NONE;
        }

        int noteAt(int rank) {
            return rank >= 0 && rank < size ? notes[rank] : NONE;
        }

        int fromAt(int rank) {
            return rank >= 0 && rank < size ? codes[rank] % PLACES : NONE;
        }

        int toAt(int rank) {
            return rank >= 0 && rank < size ? codes[rank] / PLACES : NONE;
        }

        int countBelow(int code) {
            int count = 0;
            while (count < size && codes[count] < code) {
                count++;
            }
            return count;
        }

        int rankOf(int code) {
            int rank = countBelow(code);
            return codeAt(rank) == code ? rank : NONE;
        }

        int rankOfNote(int note) {
            for (int rank = 0; rank < size; rank++) {
                if (notes[rank] == note) {
                    return rank;
                }
            }
            return NONE;
        }

        int swapNote(int rank, int note) {
            if (rank < 0 || rank >= size) {
                return NONE;
            }
            int old = notes[rank];
            notes[rank] = note;
            return old;
        }

        void insert(int code, int note) {
            if (size >= LIMIT) {
                return;
            }
            int rank = countBelow(code);
            for (int i = size; i > rank; i--) {
                codes[i] = codes[i - 1];
                notes[i] = notes[i - 1];
            }
            codes[rank] = code;
            notes[rank] = note;
            size++;
            moves++;
        }

        void removeAt(int rank) {
            if (rank < 0 || rank >= size) {
                return;
            }
            size--;
            moves++;
            for (int i = rank; i < size; i++) {
                codes[i] = codes[i + 1];
                notes[i] = notes[i + 1];
            }
        }

        int removeRange(int start, int end) {
            for (int rank = end - 1; rank >= start; rank--) {
                removeAt(rank);
            }
            return end - start;
        }

        void becomeAs(Book source) {
            size = source.size;
            moves++;
            for (int rank = 0; rank < size; rank++) {
                codes[rank] = source.codes[rank];
                notes[rank] = source.notes[rank];
            }
        }

        int countMissingIn(Book other) {
            int count = 0;
            for (int rank = 0; rank < size; rank++) {
                if (other.rankOf(codes[rank]) == NONE) {
                    count++;
                }
            }
            return count;
        }

        boolean isLike(Book other) {
            if (size != other.size) {
                return false;
            }
            for (int rank = 0; rank < size; rank++) {
                if (codes[rank] != other.codes[rank] || notes[rank] != other.notes[rank]) {
                    return false;
                }
            }
            return true;
        }

        boolean isRising() {
            for (int rank = 1; rank < size; rank++) {
                if (codes[rank - 1] >= codes[rank]) {
                    return false;
                }
            }
            return true;
        }

        int checkSum() {
            int sum = 0;
            for (int rank = 0; rank < size; rank++) {
                sum += codes[rank] ^ notes[rank];
            }
            return sum;
        }

        String tell(int start, int end, boolean isBack) {
            StringBuilder text = new StringBuilder();
            for (int i = 0; i < end - start; i++) {
                int rank = isBack ? end - 1 - i : start + i;
                if (i > 0) {
                    text.append(' ');
                }
                text.append(fromAt(rank)).append('-').append(toAt(rank));
                text.append(':').append(noteAt(rank));
            }
            return text.toString();
        }

        boolean doesHold(int rank, int place) {
            return fromAt(rank) <= place && place <= toAt(rank);
        }

        boolean doMeet(int rank, int other) {
            return fromAt(rank) <= toAt(other) && fromAt(other) <= toAt(rank);
        }

        /** The set of the spans that hold a place. */
        int holding(int place) {
            int set = 0;
            for (int rank = 0; rank < size; rank++) {
                if (doesHold(rank, place)) {
                    set |= 1 << rank;
                }
            }
            return set;
        }

        /** The set of the spans that meet one of them, itself too. */
        int meeting(int other) {
            int set = 0;
            for (int rank = 0; rank < size; rank++) {
                if (doMeet(rank, other)) {
                    set |= 1 << rank;
                }
            }
            return set;
        }

        /** The set of the spans that hold the to of one of a set. */
        int holdingEndsOf(int set) {
            int held = 0;
            for (int rank = 0; rank < size; rank++) {
                if (isInSet(set, rank)) {
                    held |= holding(toAt(rank));
                }
            }
            return held;
        }

        int depthAt(int place) {
            return Integer.bitCount(holding(place));
        }

        /**
         * Looks at each from alone: the holders of a place that is no from hold the place ahead of it
         * too, so it is never the smallest one of the deepest.
         */
        int deepPlace() {
            int best = NONE;
            for (int rank = 0; rank < size; rank++) {
                int place = fromAt(rank);
                int gain = depthAt(place) - depthAt(best);
                if (gain > 0 || gain == 0 && place < best) {
                    best = place;
                }
            }
            return best;
        }

        /** The holder with the greatest to, of several with the greatest from, has the greatest code. */
        int lastHolder(int place) {
            for (int rank = size - 1; rank >= 0; rank--) {
                if (doesHold(rank, place)) {
                    return rank;
                }
            }
            return NONE;
        }
    }

    /** The bounds of the part; without a book there is none. It looks at its book anew each time. */
    private static final class Part {
        private int book = NONE;
        private int low = NONE;
        private int high = NONE;

        boolean isWithin(int to) {
            return (low == NONE || to >= low) && (high == NONE || to <= high);
        }

        int startIn(Book spans) {
            return low == NONE ? 0 : spans.countBelow(PLACES * low);
        }

        int endIn(Book spans) {
            return high == NONE ? spans.count() : spans.countBelow(PLACES * (high + 1));
        }

        int countIn(Book spans) {
            return endIn(spans) - startIn(spans);
        }

        boolean isTrueTo(Book spans) {
            int start = startIn(spans);
            int end = endIn(spans);
            for (int rank = 0; rank < spans.count(); rank++) {
                boolean isListed = start <= rank && rank < end;
                if (isListed != isWithin(spans.toAt(rank))) {
                    return false;
                }
            }
            return true;
        }
    }

    /** Where the hand stands; without a book there is none. */
    private static final class Hand {
        private int book = NONE;
        private int seenMoves;
        private int nextRank;
        private boolean isHolding;

        boolean isLost(Book spans) {
            return seenMoves != spans.moves();
        }
    }

    /** The ranks of the chosen spans, or of the links of a stretch, reckoned anew for each question. */
    private static final class Chain {
        private final int[] ranks = new int[LIMIT];
        private int count;

        int rankAt(int k) {
            return k >= 0 && k < count ? ranks[k] : NONE;
        }

        void append(int rank) {
            if (count < LIMIT) {
                ranks[count] = rank;
                count++;
            }
        }

        void fillChosen(Book spans) {
            count = 0;
            int end = NONE;
            for (int rank = 0; rank < spans.count(); rank++) {
                if (spans.fromAt(rank) > end) {
                    append(rank);
                    end = spans.toAt(rank);
                }
            }
        }

        /** Tells whether the stretch has links; no span is a link twice, so there are no more than LIMIT. */
        boolean fillLinks(Book spans, int a, int b) {
            count = 0;
            int p = a;
            for (int step = 0; step < LIMIT && p <= b; step++) {
                int rank = spans.lastHolder(p);
                if (rank == NONE) {
                    return false;
                }
                append(rank);
                p = spans.toAt(rank) + 1;
            }
            return p > b;
        }

        int asSet() {
            int set = 0;
            for (int k = 0; k < count; k++) {
                set |= 1 << ranks[k];
            }
            return set;
        }
    }

    /** The room of each span by its rank, reckoned anew for each question. */
    private static final class Housing {
        private final int[] rooms = new int[LIMIT];
        private int size;
        private int count;

        int roomAt(int rank) {
            return rank >= 0 && rank < size ? rooms[rank] : NONE;
        }

        void fill(Book spans) {
            size = spans.count();
            count = 0;
            for (int rank = 0; rank < size; rank++) {
                rooms[rank] = NONE;
            }
            for (int turn = 0; turn < size; turn++) {
                int rank = earliestUnhoused(spans);
                if (rank != NONE) {
                    rooms[rank] = firstFree(spans, rank);
                    count = Math.max(count, rooms[rank] + 1);
                }
            }
        }

        /** Those with the same from stand by rising to already: the first one of the least from is next. */
        private int earliestUnhoused(Book spans) {
            int best = NONE;
            for (int rank = 0; rank < size; rank++) {
                boolean isEarlier = best == NONE || spans.fromAt(rank) < spans.fromAt(best);
                if (rooms[rank] == NONE && isEarlier) {
                    best = rank;
                }
            }
            return best;
        }

        private int firstFree(Book spans, int rank) {
            int used = 0;
            for (int other = 0; other < size; other++) {
                if (rooms[other] != NONE && spans.doMeet(other, rank)) {
                    used |= 1 << rooms[other];
                }
            }
            int room = 0;
            while (room < LIMIT && isInSet(used, room)) {
                room++;
            }
            return room;
        }
    }

    /** Holds the answers about one book against all the sets of its spans. */
    private static final class Trial {
        private final int[] meeting = new int[LIMIT];
        private final int[] holdingEnd = new int[LIMIT];
        private final Chain chosen = new Chain();
        private final Chain linked = new Chain();
        private final Housing housing = new Housing();
        private int depth;

        void measure(Book spans) {
            for (int rank = 0; rank < LIMIT; rank++) {
                meeting[rank] = spans.meeting(rank);
                holdingEnd[rank] = spans.holding(spans.toAt(rank));
            }
            depth = spans.depthAt(spans.deepPlace());
            chosen.fillChosen(spans);
            housing.fill(spans);
        }

        /** Comes after measure() of the same book. */
        boolean passes(Book spans) {
            if (!spans.isRising()) {
                return false;
            }
            int all = (1 << spans.count()) - 1;
            int fewest = NONE;
            for (int set = 0; set <= all; set++) {
                if (!isSetTrue(spans, set, all)) {
                    return false;
                }
                if (doesCover(spans, set) && (fewest == NONE || Integer.bitCount(set) < fewest)) {
                    fewest = Integer.bitCount(set);
                }
            }
            return spans.holdingEndsOf(chosen.asSet()) == all
                    && areRoomsTrue(spans)
                    && areLinksTrue(spans, fewest);
        }

        private boolean isSetTrue(Book spans, int set, int all) {
            int count = 0;
            int held = 0;
            boolean isApart = true;
            boolean isMeeting = true;
            boolean isEarly = false;
            for (int rank = 0; rank < LIMIT; rank++) {
                if (isInSet(set, rank)) {
                    isApart = isApart && (meeting[rank] & set) == 1 << rank;
                    isMeeting = isMeeting && (meeting[rank] & set) == set;
                    isEarly = isEarly || spans.toAt(rank) < spans.toAt(chosen.rankAt(count));
                    held |= holdingEnd[rank];
                    count++;
                }
            }
            boolean isApartTrue = !isApart || count <= chosen.count && !isEarly;
            boolean isHeldTrue = held != all || count >= chosen.count;
            boolean isDepthTrue = !isMeeting || count <= depth;
            return isApartTrue && isHeldTrue && isDepthTrue;
        }

        private boolean areRoomsTrue(Book spans) {
            for (int rank = 0; rank < spans.count(); rank++) {
                for (int other = 0; other < rank; other++) {
                    boolean isOneRoom = housing.roomAt(rank) == housing.roomAt(other);
                    if (isOneRoom && isInSet(meeting[rank], other)) {
                        return false;
                    }
                }
            }
            return housing.count == depth;
        }

        private boolean areLinksTrue(Book spans, int fewest) {
            if (spans.count() == 0) {
                return true;
            }
            int end = spans.toAt(spans.count() - 1);
            boolean isLinked = linked.fillLinks(spans, spans.fromAt(0), end);
            return (isLinked ? linked.count : NONE) == fewest;
        }

        /** Goes backwards by to: a span that does not hold the last open place then is of no use later. */
        private boolean doesCover(Book spans, int set) {
            int open = spans.toAt(spans.count() - 1);
            for (int rank = spans.count() - 1; rank >= 0; rank--) {
                if (isInSet(set, rank) && spans.doesHold(rank, open)) {
                    open = spans.fromAt(rank) - 1;
                }
            }
            return open < spans.fromAt(0);
        }
    }
}
