/** A shop in which lines are set by hand; ../shared/DOC.md says what each call does. */
public final class LeadCases {
    public static final int NONE = -1;
    public static final int BOX = 0, LINE = 1, PIE = 2, MELTED = 3;
    public static final int LOCKED = 0, SOUND = 1, BROKEN = 2;

    private static final int CASES = 2;
    private static final int BOXES = 29;
    private static final int POINT = 26, COMMA = 27, HYPHEN = 28;
    private static final int MOST_SORTS = 300, MOST_CAST = 40, MOST_SORTED = 300;
    private static final int MOST_SPACES = 1000, MOST_ADDED = 100;
    private static final int MOST_SIGNS = 60;
    private static final int MOST_LINES = 12;
    private static final int MOST_FORMS = 4;
    private static final int LEAST_MEASURE = 20, MOST_MEASURE = 200, FIRST_MEASURE = 60;
    private static final int WORN = 12;
    private static final int PLAIN_GAP = 3, WIDEST_GAP = 12;
    private static final int NOT_SET = -10;

    /** Of each box, the units of its face in the case 0; the case 1 has 1 more. */
    private static final int[] WIDTHS = {
        4, 4, 4, 4, 4, 3, 4, 4, 2, 2, 4, 2, 6, 4, 4, 4, 4, 3, 3, 3, 4, 4, 6, 4, 4, 4, 2, 2, 2};

    /** The units of the spaces, the greatest first, as gaps are filled in that order. */
    private static final int[] UNITS = {6, 4, 3, 2, 1};

    private final Pile[] piles = new Pile[CASES * BOXES];
    private final Sort[] sorts = new Sort[MOST_SORTS];
    private int sortCount = 0;
    private final Spaces store = new Spaces();
    private final Text text = new Text();
    private final Cut cut = new Cut();
    private int measured = FIRST_MEASURE;
    private final Line[] standing = new Line[MOST_LINES];
    private int lineCount = 0;
    private final Form[] forms = new Form[MOST_FORMS];
    private int formCount = 0;
    private final Heap heap = new Heap();
    private final Sheet sheet = new Sheet();
    private final int[] left = new int[BOXES];

    public LeadCases() {
        for (int i = 0; i < piles.length; i++) {
            piles[i] = new Pile(i % BOXES);
        }
        for (int i = 0; i < standing.length; i++) {
            standing[i] = new Line();
        }
        for (int i = 0; i < forms.length; i++) {
            forms[i] = new Form(i);
        }
    }

    // ---- sorts, spaces, the text

    public int cast(int font, int box, int number)
            throws IndexOutOfBoundsException, IllegalArgumentException, IllegalStateException {
        Pile pile = pileOf(font, box);
        if (pile == null) {
            throw new IndexOutOfBoundsException("no such case or box");
        }
        if (number < 1 || number > MOST_CAST) {
            throw new IllegalArgumentException("1 to 40 sorts are cast");
        }
        if (sortCount + number > sorts.length) {
            throw new IllegalStateException("more than 300 sorts");
        }
        for (int i = 0; i < number; i++) {
            castOne(font, box, pile);
        }
        return sortCount;
    }

    public int spaces(int units, int number) throws IllegalArgumentException, IllegalStateException {
        int size = sizeOf(units);
        if (size == NONE || number < 1 || number > MOST_ADDED) {
            throw new IllegalArgumentException("no such spaces");
        }
        if (store.countOf(size) + number > MOST_SPACES) {
            throw new IllegalStateException("more than 1000 spaces in a box");
        }
        store.add(size, number);
        return store.countOf(size);
    }

    public int type(char sign) throws IllegalArgumentException, IllegalStateException {
        if (sign != ' ' && boxFor(sign) == NONE) {
            throw new IllegalArgumentException("no such sign");
        }
        if (text.isFull()) {
            throw new IllegalStateException("the text has 60 signs");
        }
        text.append(sign);
        return text.count;
    }

    public int clear() {
        int count = text.count;
        text.count = 0;
        return count;
    }

    public int measure(int units) throws IllegalArgumentException, IllegalStateException {
        if (units < LEAST_MEASURE || units > MOST_MEASURE) {
            throw new IllegalArgumentException("the measure is 20 to 200");
        }
        if (lineCount > 0) {
            throw new IllegalStateException("there are lines");
        }
        int before = measured;
        measured = units;
        return before;
    }

    // ---- lines

    public int set(int font, boolean turns) throws IndexOutOfBoundsException, IllegalStateException {
        if (!isCase(font)) {
            throw new IndexOutOfBoundsException("no such case");
        }
        text.cutAt(0, font, measured, cut);
        Line line = spareLine();
        if (cut.isEmpty() || line == null) {
            throw new IllegalStateException("no word, or 12 lines");
        }
        line.begin(font, cut.last);
        int missing = takeSorts(line, turns);
        if (missing != NONE) {
            takeBack(line);
            return NOT_SET - missing;
        }
        text.takeOff(cut.to);
        lineCount++;
        fill(line);
        return lineCount - 1;
    }

    public int mend(int line, int place) throws IndexOutOfBoundsException, IllegalStateException {
        Line mended = lineOf(line);
        Sort old = mended == null ? null : mended.sortOn(place);
        if (mended == null || old == null) {
            throw new IndexOutOfBoundsException("no such line or place");
        }
        Sort right = mended.isWrong(place) ? takeFace(mended.font, mended.askedOn(place)) : null;
        if (right == null) {
            throw new IllegalStateException("not wrong, or not possible");
        }
        mended.replace(place, right);
        giveBack(old);
        if (mended.form != null) {
            mended.form.state = LOCKED;
        }
        store.takeBackFrom(mended);
        fill(mended);
        return right.number;
    }

    public int putBack(int line) throws IndexOutOfBoundsException, IllegalStateException {
        Line free = lineOf(line);
        if (free == null) {
            throw new IndexOutOfBoundsException("no such line");
        }
        if (free.form != null) {
            throw new IllegalStateException("it is of a form");
        }
        return distribute(line);
    }

    public int foul(int font, int box, int other)
            throws IndexOutOfBoundsException, IllegalArgumentException, IllegalStateException {
        Pile from = pileOf(font, box);
        Pile to = pileOf(font, other);
        if (from == null || to == null) {
            throw new IndexOutOfBoundsException("no such case or box");
        }
        if (box == other) {
            throw new IllegalArgumentException("the same box");
        }
        Sort sort = from.take();
        if (sort == null) {
            throw new IllegalStateException("the box is empty");
        }
        to.put(sort);
        return sort.number;
    }

    public int sortPie(int number) throws IllegalArgumentException {
        if (number < 1 || number > MOST_SORTED) {
            throw new IllegalArgumentException("1 to 300 sorts of the pie");
        }
        int most = Math.min(number, heap.count);
        int kept = 0;
        for (int i = 0; i < most; i++) {
            kept += giveBack(heap.sortOn(i));
        }
        heap.takeOff(most);
        return kept;
    }

    // ---- forms

    public int lock(int first, int last)
            throws IndexOutOfBoundsException, IllegalArgumentException, IllegalStateException {
        if (lineOf(first) == null || lineOf(last) == null) {
            throw new IndexOutOfBoundsException("no such line");
        }
        if (last < first) {
            throw new IllegalArgumentException("the last one is ahead of the first one");
        }
        Form form = formCount >= 0 && formCount < forms.length ? forms[formCount] : null;
        if (!areFree(first, last) || form == null) {
            throw new IllegalStateException("a line is of a form, or there were 4 forms");
        }
        formCount++;
        for (int i = first; i <= last && i < standing.length; i++) {
            Line line = lineOf(i);
            if (line != null) {
                line.form = form;
            }
        }
        return form.number;
    }

    public int lift(int form) throws IndexOutOfBoundsException, IllegalStateException {
        Form lifted = formOf(form);
        if (lifted == null) {
            throw new IndexOutOfBoundsException("no such form");
        }
        if (lifted.state == BROKEN) {
            throw new IllegalStateException("the form is broken");
        }
        if (isTight(lifted)) {
            lifted.state = SOUND;
            return 0;
        }
        lifted.state = BROKEN;
        return breakUp(lifted);
    }

    public int proof(int form) throws IndexOutOfBoundsException, IllegalStateException {
        Form pulled = formOf(form);
        if (pulled == null) {
            throw new IndexOutOfBoundsException("no such form");
        }
        if (pulled.state != SOUND) {
            throw new IllegalStateException("the form is not sound");
        }
        pulled.proofs++;
        sheet.count = 0;
        for (int i = 0; i < lineCount; i++) {
            Line line = lineOf(i);
            if (line != null && line.form == pulled) {
                print(line);
            }
        }
        return sheet.count;
    }

    public int unlock(int form) throws IndexOutOfBoundsException, IllegalStateException {
        Form loosened = formOf(form);
        if (loosened == null) {
            throw new IndexOutOfBoundsException("no such form");
        }
        if (loosened.state == BROKEN) {
            throw new IllegalStateException("the form is broken");
        }
        int first = firstLineOf(loosened);
        int count = linesOf(loosened);
        int kept = 0;
        for (int i = 0; i < count; i++) {
            kept += distribute(first);
        }
        loosened.state = BROKEN;
        return kept;
    }

    // ---- what is asked

    public int inBox(int font, int box) throws IndexOutOfBoundsException {
        Pile pile = pileOf(font, box);
        if (pile == null) {
            throw new IndexOutOfBoundsException("no such case or box");
        }
        return pile.count;
    }

    public int top(int font, int box) throws IndexOutOfBoundsException {
        Pile pile = pileOf(font, box);
        if (pile == null) {
            throw new IndexOutOfBoundsException("no such case or box");
        }
        return pile.upper == null ? NONE : pile.upper.number;
    }

    public int inSpaces(int units) throws IllegalArgumentException {
        int size = sizeOf(units);
        if (size == NONE) {
            throw new IllegalArgumentException("no such spaces");
        }
        return store.countOf(size);
    }

    public int sort(int sort, int what) throws IndexOutOfBoundsException, IllegalArgumentException {
        Sort asked = sortOf(sort);
        if (asked == null) {
            throw new IndexOutOfBoundsException("no such sort");
        }
        switch (what) {
            case 0: return asked.font;
            case 1: return asked.box;
            case 2: return asked.wear;
            case 3: return asked.where;
            case 4: return placeOf(asked);
            case 5: return asked.turned ? 1 : 0;
            case 6: return widthOf(asked.font, asked.box);
            default: throw new IllegalArgumentException("no such thing of a sort");
        }
    }

    public int lines() {
        return lineCount;
    }

    public int line(int line, int what) throws IndexOutOfBoundsException, IllegalArgumentException {
        Line asked = lineOf(line);
        if (asked == null) {
            throw new IndexOutOfBoundsException("no such line");
        }
        switch (what) {
            case 0: return asked.font;
            case 1: return asked.count;
            case 2: return asked.gaps;
            case 3: return slackOf(asked);
            case 4: return asked.form == null ? NONE : asked.form.number;
            case 5: return asked.wrongPlaces();
            case 6: return asked.firstWrong();
            case 7: return asked.unitsBehind();
            default: throw new IllegalArgumentException("no such thing of a line");
        }
    }

    public int sortAt(int line, int place) throws IndexOutOfBoundsException {
        Line asked = lineOf(line);
        Sort sort = asked == null ? null : asked.sortOn(place);
        if (sort == null) {
            throw new IndexOutOfBoundsException("no such line or place");
        }
        return sort.number;
    }

    public int gap(int line, int gap) throws IndexOutOfBoundsException {
        Line asked = lineOf(line);
        if (asked == null || gap < 0 || gap >= asked.gaps) {
            throw new IndexOutOfBoundsException("no such line or gap");
        }
        return asked.unitsIn(gap);
    }

    public int form(int form, int what) throws IndexOutOfBoundsException, IllegalArgumentException {
        Form asked = formOf(form);
        if (asked == null) {
            throw new IndexOutOfBoundsException("no such form");
        }
        switch (what) {
            case 0: return asked.state;
            case 1: return linesOf(asked);
            case 2: return asked.proofs;
            default: throw new IllegalArgumentException("no such thing of a form");
        }
    }

    public char printed(int place) throws IndexOutOfBoundsException {
        if (!sheet.has(place)) {
            throw new IndexOutOfBoundsException("no such sign");
        }
        return sheet.signOn(place);
    }

    public int pie() {
        return heap.count;
    }

    public int lead(int font, int box) throws IndexOutOfBoundsException {
        Pile pile = pileOf(font, box);
        if (pile == null) {
            throw new IndexOutOfBoundsException("no such case or box");
        }
        return pile.faces;
    }

    public int leadAnew(int font, int box) throws IndexOutOfBoundsException {
        if (pileOf(font, box) == null) {
            throw new IndexOutOfBoundsException("no such case or box");
        }
        int found = heap.countOf(font, box);
        for (int i = 0; i < piles.length; i++) {
            found += piles[i] == null ? 0 : piles[i].countOf(font, box);
        }
        for (int i = 0; i < lineCount; i++) {
            Line line = lineOf(i);
            found += line == null ? 0 : line.countOf(font, box);
        }
        return found;
    }

    public int ahead(int font) throws IndexOutOfBoundsException {
        if (!isCase(font)) {
            throw new IndexOutOfBoundsException("no such case");
        }
        for (int box = 0; box < left.length; box++) {
            Pile pile = pileOf(font, box);
            left[box] = pile == null ? 0 : pile.count;
        }
        int from = 0;
        // Each line takes a sign at least, so there are no more lines than signs.
        for (int set = 0; set < MOST_SIGNS; set++) {
            text.cutAt(from, font, measured, cut);
            if (cut.isEmpty() || !spendCut()) {
                return set;
            }
            from = cut.to;
        }
        return MOST_SIGNS;
    }

    // ---- cases and their boxes

    private static boolean isCase(int font) {
        return font >= 0 && font < CASES;
    }

    private static boolean isBox(int box) {
        return box >= 0 && box < BOXES;
    }

    private static int widthOf(int font, int box) {
        return box >= 0 && box < WIDTHS.length ? WIDTHS[box] + font : 0;
    }

    /** The box for a sign; NONE for a blank and for what is no sign of a text. */
    private static int boxFor(char sign) {
        if (sign >= 'a' && sign <= 'z') {
            return sign - 'a';
        }
        switch (sign) {
            case '.': return POINT;
            case ',': return COMMA;
            case '-': return HYPHEN;
            default: return NONE;
        }
    }

    private static char signFor(int box) {
        switch (box) {
            case POINT: return '.';
            case COMMA: return ',';
            case HYPHEN: return '-';
            default: return (char) ('a' + box);
        }
    }

    /** Where spaces of so many units are in UNITS; NONE if there are no such spaces. */
    private static int sizeOf(int units) {
        for (int size = 0; size < UNITS.length; size++) {
            if (UNITS[size] == units) {
                return size;
            }
        }
        return NONE;
    }

    private static int unitsOf(int size) {
        return size >= 0 && size < UNITS.length ? UNITS[size] : 0;
    }

    /** The pile in a box; null if there is no such case or box. */
    private Pile pileOf(int font, int box) {
        if (!isCase(font) || !isBox(box)) {
            return null;
        }
        int at = font * BOXES + box;
        return at < piles.length ? piles[at] : null;
    }

    private Sort sortOf(int number) {
        return number >= 0 && number < sortCount && number < sorts.length ? sorts[number] : null;
    }

    private void castOne(int font, int box, Pile pile) {
        if (sortCount < sorts.length) {
            Sort sort = new Sort(sortCount, font, box);
            sorts[sortCount] = sort;
            sortCount++;
            pile.faces++;
            pile.put(sort);
        }
    }

    /** Puts a sort into the box of its own face, or melts it; answers 1 if it came into the box. */
    private int giveBack(Sort sort) {
        Pile own = sort == null ? null : pileOf(sort.font, sort.box);
        if (own == null) {
            return 0;
        }
        sort.turned = false;
        if (sort.wear >= WORN) {
            sort.where = MELTED;
            own.faces--;
            return 0;
        }
        own.put(sort);
        return 1;
    }

    private int placeOf(Sort sort) {
        switch (sort.where) {
            case BOX: return sort.pile == null ? NONE : sort.pile.box;
            case LINE: return lineWith(sort);
            case PIE: return heap.placeOf(sort);
            default: return NONE;
        }
    }

    // ---- setting

    /** Takes the sorts of the cut into the line; answers the box in which one is missing, or NONE. */
    private int takeSorts(Line line, boolean turns) {
        for (int i = cut.from; i < cut.to; i++) {
            int box = text.boxOn(i);
            if (box == NONE) {
                line.openGap();
            } else if (!takeOne(line, box, turns)) {
                return box;
            }
        }
        if (cut.hyphen && !takeOne(line, HYPHEN, turns)) {
            return HYPHEN;
        }
        return NONE;
    }

    private boolean takeOne(Line line, int box, boolean turns) {
        Pile pile = pileOf(line.font, box);
        if (pile == null || line.isFull()) {
            return false;
        }
        boolean turned = pile.upper == null && turns;
        Pile from = turned ? pileForTurned(line.font, box) : pile;
        Sort sort = from == null ? null : from.take();
        if (sort == null) {
            return false;
        }
        sort.turned = turned;
        line.append(sort, box);
        return true;
    }

    /** The box whose top sort stands turned for a face; null if there is none. */
    private Pile pileForTurned(int font, int box) {
        int width = widthOf(font, box);
        Pile best = null;
        for (int other = 0; other < BOXES; other++) {
            Pile pile = pileOf(font, other);
            if (pile == null || pile.upper == null || other == box) {
                continue;
            }
            boolean fits = widthOf(pile.upper.font, pile.upper.box) == width;
            if (fits && (best == null || pile.count > best.count)) {
                best = pile;
            }
        }
        return best;
    }

    /** Undoes takeSorts: from the last one on, so that each pile lies as it did. */
    private void takeBack(Line line) {
        for (int i = line.count - 1; i >= 0; i--) {
            Sort sort = line.sortOn(i);
            if (sort != null && sort.pile != null) {
                sort.turned = false;
                sort.pile.put(sort);
            }
        }
    }

    /** Takes what the cut needs from the numbers that are left; answers whether they go so far. */
    private boolean spendCut() {
        for (int i = cut.from; i < cut.to; i++) {
            int box = text.boxOn(i);
            if (box != NONE && !spendOne(box)) {
                return false;
            }
        }
        return !cut.hyphen || spendOne(HYPHEN);
    }

    private boolean spendOne(int box) {
        if (box < 0 || box >= left.length || left[box] == 0) {
            return false;
        }
        left[box]--;
        return true;
    }

    /** Fills the gaps of a line that has no spaces. */
    private void fill(Line line) {
        int rest = measured - line.widthOfSorts();
        int gaps = line.gaps;
        if (rest < 0) {
            return;
        }
        if (gaps <= 0) {
            store.fillGap(line, 0, rest);
            return;
        }
        int each = rest / gaps;
        int more = rest % gaps;
        int widest = more > 0 ? each + 1 : each;
        boolean plain = (line.last || widest > WIDEST_GAP) && rest >= PLAIN_GAP * gaps;
        for (int i = 0; i < gaps; i++) {
            int shared = i < more ? each + 1 : each;
            store.fillGap(line, i, plain ? PLAIN_GAP : shared);
        }
        if (plain) {
            store.fillGap(line, gaps, rest - PLAIN_GAP * gaps);
        }
    }

    // ---- lines that stand

    private Line lineOf(int number) {
        return number >= 0 && number < lineCount && number < standing.length ? standing[number] : null;
    }

    /** The object for the next line, which stays spare if that is not set; null if there are 12. */
    private Line spareLine() {
        return lineCount >= 0 && lineCount < standing.length ? standing[lineCount] : null;
    }

    private int lineWith(Sort sort) {
        for (int i = 0; i < lineCount && i < standing.length; i++) {
            if (standing[i] == sort.line) {
                return i;
            }
        }
        return NONE;
    }

    private int slackOf(Line line) {
        return measured - line.widthOfSorts() - line.widthOfSpaces();
    }

    /** Takes a sort with a face for mending; null if it is not possible. */
    private Sort takeFace(int font, int box) {
        Pile pile = pileOf(font, box);
        if (pile != null && pile.upper != null && pile.upper.hasFace(font, box)) {
            return pile.take();
        }
        return heap.takeLowest(font, box);
    }

    /** Puts the sorts and spaces of a line back; answers how many sorts came into boxes. */
    private int distribute(int number) {
        Line line = lineOf(number);
        if (line == null) {
            return 0;
        }
        int kept = 0;
        for (int i = line.count - 1; i >= 0; i--) {
            kept += giveBack(line.sortOn(i));
        }
        removeLine(number);
        return kept;
    }

    /** Lets a line fall to pie; answers how many sorts came to the pie. */
    private int fallApart(int number) {
        Line line = lineOf(number);
        if (line == null) {
            return 0;
        }
        int fallen = line.count;
        for (int i = 0; i < fallen; i++) {
            heap.append(line.sortOn(i));
        }
        removeLine(number);
        return fallen;
    }

    /** Takes a line away, its spaces to their boxes; the object is kept for a line that is set later. */
    private void removeLine(int number) {
        Line gone = lineOf(number);
        if (gone == null) {
            return;
        }
        store.takeBackFrom(gone);
        for (int i = number + 1; i < lineCount && i < standing.length; i++) {
            standing[i - 1] = standing[i];
        }
        lineCount--;
        if (lineCount >= 0 && lineCount < standing.length) {
            standing[lineCount] = gone;
        }
    }

    // ---- forms and proofs

    private Form formOf(int number) {
        return number >= 0 && number < formCount && number < forms.length ? forms[number] : null;
    }

    private boolean areFree(int first, int last) {
        for (int i = first; i <= last; i++) {
            Line line = lineOf(i);
            if (line == null || line.form != null) {
                return false;
            }
        }
        return true;
    }

    private boolean isOf(Form form, int number) {
        Line line = lineOf(number);
        return line != null && line.form == form;
    }

    private int firstLineOf(Form form) {
        for (int i = 0; i < lineCount; i++) {
            if (isOf(form, i)) {
                return i;
            }
        }
        return NONE;
    }

    private int linesOf(Form form) {
        int count = 0;
        for (int i = 0; i < lineCount; i++) {
            if (isOf(form, i)) {
                count++;
            }
        }
        return count;
    }

    private boolean isTight(Form form) {
        for (int i = 0; i < lineCount; i++) {
            Line line = lineOf(i);
            if (line != null && line.form == form && slackOf(line) != 0) {
                return false;
            }
        }
        return true;
    }

    /** Frees the tight lines of a form and lets the others fall apart; answers how many sorts fell. */
    private int breakUp(Form form) {
        int at = firstLineOf(form);
        int count = linesOf(form);
        int fallen = 0;
        for (int i = 0; i < count; i++) {
            Line line = lineOf(at);
            if (line == null) {
                return fallen;
            }
            line.form = null;
            if (slackOf(line) == 0) {
                at++;
            } else {
                fallen += fallApart(at);
            }
        }
        return fallen;
    }

    private void print(Line line) {
        int gap = 0;
        for (int i = 0; i < line.count; i++) {
            if (line.isBehindGap(i, gap)) {
                if (line.unitsIn(gap) > 0) {
                    sheet.append(' ');
                }
                gap++;
            }
            Sort sort = line.sortOn(i);
            if (sort != null) {
                sheet.append(sort.print());
                sort.wear++;
            }
        }
    }

    /** A piece of lead. */
    private static final class Sort {
        final int number;
        final int font;
        final int box;
        int wear = 0;
        boolean turned = false;
        int where = BOX;
        /** The box in which it lies, or the one from which it was taken last. */
        Pile pile = null;
        /** The line in which it stands, while it stands in one. */
        Line line = null;
        /** The sort below it, while it lies in a box. */
        Sort below = null;

        Sort(int number, int font, int box) {
            this.number = number;
            this.font = font;
            this.box = box;
        }

        boolean hasFace(int otherFont, int otherBox) {
            return font == otherFont && box == otherBox;
        }

        char print() {
            if (wear >= WORN) {
                return '?';
            }
            return turned ? '=' : signFor(box);
        }
    }

    /** What lies in a box, and how much lead there is of its face. */
    private static final class Pile {
        final int box;
        Sort upper = null;
        int count = 0;
        /** How many sorts of the face of this box are not melted, wherever they are. */
        int faces = 0;

        Pile(int box) {
            this.box = box;
        }

        void put(Sort sort) {
            sort.where = BOX;
            sort.pile = this;
            sort.below = upper;
            upper = sort;
            count++;
        }

        Sort take() {
            Sort sort = upper;
            if (sort == null) {
                return null;
            }
            upper = sort.below;
            sort.below = null;
            count--;
            return sort;
        }

        int countOf(int font, int face) {
            int found = 0;
            for (Sort sort = upper; sort != null; sort = sort.below) {
                if (sort.hasFace(font, face)) {
                    found++;
                }
            }
            return found;
        }
    }

    /** The boxes of spaces. */
    private static final class Spaces {
        final int[] counts = new int[UNITS.length];

        int countOf(int size) {
            return size >= 0 && size < counts.length ? counts[size] : 0;
        }

        void add(int size, int number) {
            if (size >= 0 && size < counts.length) {
                counts[size] += number;
            }
        }

        /** Makes a gap of a line, which is the one behind the sorts if it is none between words. */
        void fillGap(Line line, int gap, int width) {
            int open = width;
            for (int size = 0; size < UNITS.length; size++) {
                int unit = UNITS[size];
                while (countOf(size) > 0 && open >= unit) {
                    add(size, -1);
                    line.addSpace(gap, size);
                    open -= unit;
                }
            }
        }

        void takeBackFrom(Line line) {
            for (int size = 0; size < counts.length; size++) {
                add(size, line.spacesOf(size));
            }
            line.dropSpaces();
        }
    }

    /** Where a line ends that begins at some place of the text. */
    private static final class Cut {
        int from = 0;
        int to = 0;
        boolean hyphen = false;
        boolean last = false;

        void note(int from, int to, boolean hyphen, boolean last) {
            this.from = from;
            this.to = to;
            this.hyphen = hyphen;
            this.last = last;
        }

        boolean isEmpty() {
            return from >= to;
        }
    }

    /** The text that is to be set. */
    private static final class Text {
        final char[] signs = new char[MOST_SIGNS];
        int count = 0;

        boolean isFull() {
            return count >= signs.length;
        }

        void append(char sign) {
            if (count >= 0 && count < signs.length) {
                signs[count] = sign;
                count++;
            }
        }

        void takeOff(int number) {
            for (int i = number; i >= 0 && i < count && i < signs.length; i++) {
                signs[i - number] = signs[i];
            }
            count = Math.max(0, count - number);
        }

        /** The box for the sign at a place; NONE if it is a blank. */
        int boxOn(int place) {
            return place >= 0 && place < count && place < signs.length ? boxFor(signs[place]) : NONE;
        }

        /** The first place from this one on where a word is, or the end of the text. */
        int wordFrom(int place) {
            int at = place;
            while (at < count && boxOn(at) == NONE) {
                at++;
            }
            return at;
        }

        int wordEnd(int place) {
            int at = place;
            while (at < count && boxOn(at) != NONE) {
                at++;
            }
            return at;
        }

        int widthOfWord(int from, int to, int font) {
            int width = 0;
            for (int i = from; i < to; i++) {
                width += widthOf(font, boxOn(i));
            }
            return width;
        }

        void cutAt(int place, int font, int measure, Cut cut) {
            int from = wordFrom(place);
            int to = wordEnd(from);
            int width = widthOfWord(from, to, font);
            if (width > measure) {
                cut.note(from, partOfWord(from, to, font, measure), true, false);
                return;
            }
            int next = wordFrom(to);
            for (int words = 1; words < MOST_SIGNS && next < count; words++) {
                int end = wordEnd(next);
                width += PLAIN_GAP + widthOfWord(next, end, font);
                if (width > measure) {
                    break;
                }
                to = end;
                next = wordFrom(end);
            }
            cut.note(from, to, false, next >= count);
        }

        /** Where a word that is too wide is divided: one sign at least, the last one not. */
        int partOfWord(int from, int end, int font, int measure) {
            int to = from + 1;
            int width = widthOf(font, HYPHEN) + widthOf(font, boxOn(from));
            while (to < end - 1) {
                width += widthOf(font, boxOn(to));
                if (width > measure) {
                    break;
                }
                to++;
            }
            return to;
        }
    }

    /** Sorts and spaces that stand side by side. */
    private static final class Line {
        final Sort[] sorts = new Sort[MOST_SIGNS];
        /** The boxes of the faces that were asked for, place by place. */
        final int[] asked = new int[MOST_SIGNS];
        /** The place of the first sort behind each gap. */
        final int[] behind = new int[MOST_SIGNS];
        /** The units that stand in each gap, then those behind the sorts. */
        final int[] gapUnits = new int[MOST_SIGNS + 1];
        /** How many spaces of each size stand in it. */
        final int[] used = new int[UNITS.length];
        int font = 0;
        int count = 0;
        int gaps = 0;
        boolean last = false;
        Form form = null;

        /** Makes an empty line of one that had gone, with its spaces taken back. */
        void begin(int newFont, boolean isLast) {
            font = newFont;
            count = 0;
            gaps = 0;
            last = isLast;
            form = null;
        }

        boolean isFull() {
            return count >= sorts.length;
        }

        void append(Sort sort, int box) {
            if (count >= 0 && count < sorts.length && count < asked.length) {
                sorts[count] = sort;
                asked[count] = box;
                count++;
                sort.where = LINE;
                sort.line = this;
            }
        }

        /** Begins a gap behind the sorts so far; more blanks at the same place are the same gap. */
        void openGap() {
            boolean open = gaps > 0 && gaps <= behind.length && behind[gaps - 1] == count;
            if (!open && gaps >= 0 && gaps < behind.length) {
                behind[gaps] = count;
                gaps++;
            }
        }

        boolean isBehindGap(int place, int gap) {
            return gap >= 0 && gap < gaps && gap < behind.length && behind[gap] == place;
        }

        /** The sort at a place; null if there is no such place. */
        Sort sortOn(int place) {
            return place >= 0 && place < count && place < sorts.length ? sorts[place] : null;
        }

        int askedOn(int place) {
            return place >= 0 && place < count && place < asked.length ? asked[place] : NONE;
        }

        void replace(int place, Sort sort) {
            if (place >= 0 && place < count && place < sorts.length) {
                sorts[place] = sort;
                sort.where = LINE;
                sort.line = this;
            }
        }

        boolean isWrong(int place) {
            Sort sort = sortOn(place);
            return sort != null && (sort.turned || !sort.hasFace(font, askedOn(place)));
        }

        int firstWrong() {
            for (int i = 0; i < count; i++) {
                if (isWrong(i)) {
                    return i;
                }
            }
            return NONE;
        }

        int wrongPlaces() {
            int wrong = 0;
            for (int i = 0; i < count; i++) {
                if (isWrong(i)) {
                    wrong++;
                }
            }
            return wrong;
        }

        int countOf(int otherFont, int box) {
            int found = 0;
            for (int i = 0; i < count; i++) {
                Sort sort = sortOn(i);
                if (sort != null && sort.hasFace(otherFont, box)) {
                    found++;
                }
            }
            return found;
        }

        int widthOfSorts() {
            int width = 0;
            for (int i = 0; i < count; i++) {
                Sort sort = sortOn(i);
                width += sort == null ? 0 : widthOf(sort.font, sort.box);
            }
            return width;
        }

        int widthOfSpaces() {
            int width = 0;
            for (int size = 0; size < UNITS.length; size++) {
                width += unitsOf(size) * spacesOf(size);
            }
            return width;
        }

        int spacesOf(int size) {
            return size >= 0 && size < used.length ? used[size] : 0;
        }

        int unitsIn(int gap) {
            return gap >= 0 && gap < gapUnits.length ? gapUnits[gap] : 0;
        }

        int unitsBehind() {
            return unitsIn(gaps);
        }

        void addSpace(int gap, int size) {
            if (gap >= 0 && gap < gapUnits.length && size >= 0 && size < used.length) {
                gapUnits[gap] += unitsOf(size);
                used[size]++;
            }
        }

        void dropSpaces() {
            for (int i = 0; i < gapUnits.length; i++) {
                gapUnits[i] = 0;
            }
            for (int i = 0; i < used.length; i++) {
                used[i] = 0;
            }
        }
    }

    /** Lines that are locked together; which ones they are, the lines tell. */
    private static final class Form {
        final int number;
        int state = LOCKED;
        int proofs = 0;

        Form(int number) {
            this.number = number;
        }
    }

    /** The pie. */
    private static final class Heap {
        final Sort[] sorts = new Sort[MOST_SORTS];
        int count = 0;

        void append(Sort sort) {
            if (sort != null && count >= 0 && count < sorts.length) {
                sorts[count] = sort;
                count++;
                sort.turned = false;
                sort.where = PIE;
            }
        }

        Sort sortOn(int place) {
            return place >= 0 && place < count && place < sorts.length ? sorts[place] : null;
        }

        int placeOf(Sort sort) {
            for (int i = 0; i < count && i < sorts.length; i++) {
                if (sorts[i] == sort) {
                    return i;
                }
            }
            return NONE;
        }

        int countOf(int font, int box) {
            int found = 0;
            for (int i = 0; i < count; i++) {
                Sort sort = sortOn(i);
                if (sort != null && sort.hasFace(font, box)) {
                    found++;
                }
            }
            return found;
        }

        /** Takes the sort with a face that has the lowest number; null if there is none. */
        Sort takeLowest(int font, int box) {
            Sort lowest = null;
            for (int i = 0; i < count; i++) {
                Sort sort = sortOn(i);
                if (sort != null && sort.hasFace(font, box)
                        && (lowest == null || sort.number < lowest.number)) {
                    lowest = sort;
                }
            }
            if (lowest != null) {
                closeUp(placeOf(lowest), 1);
            }
            return lowest;
        }

        /** Takes the first ones off. */
        void takeOff(int number) {
            closeUp(0, number);
        }

        void closeUp(int place, int number) {
            if (place < 0 || number < 0 || number > count - place) {
                return;
            }
            for (int i = place + number; i < count && i < sorts.length; i++) {
                sorts[i - number] = sorts[i];
            }
            count -= number;
        }
    }

    /** The latest proof. */
    private static final class Sheet {
        /** A line has no more sorts and gaps than the text had signs, however it was set. */
        final char[] signs = new char[MOST_LINES * MOST_SIGNS];
        int count = 0;

        void append(char sign) {
            if (count >= 0 && count < signs.length) {
                signs[count] = sign;
                count++;
            }
        }

        boolean has(int place) {
            return place >= 0 && place < count && place < signs.length;
        }

        char signOn(int place) {
            return has(place) ? signs[place] : ' ';
        }
    }
}
