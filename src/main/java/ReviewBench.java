import java.util.Arrays;
import java.util.NoSuchElementException;

/** A bench for reviewing changes to one text. */
public final class ReviewBench {
    private static final int NONE = -1;
    private static final int USERS = 5;
    private static final int CONTENTS = 100;
    private static final int MAX_LINES = 12;
    private static final int MAX_RANGES = 6;
    private static final int MAX_CHANGES = 4;
    private static final int MAX_ROUNDS = 4;
    private static final int MAX_COMMENTS = 12;
    private static final int MAX_PRIORITY = 9;
    // A text of so many lines has one place more, behind its last line.
    private static final int TABLE_SIDE = MAX_LINES + 1;
    private static final char NO_REASON = ' ';

    private final Text main = new Text();
    // Each range is written over those given before it, so this holds the owner by the last one.
    private final int[] owners = new int[CONTENTS];
    private int rangeCount;
    private final Change[] changes = new Change[MAX_CHANGES];
    private int changeCount;
    private final Remark[] remarks = new Remark[MAX_COMMENTS];
    private int remarkCount;
    private final int[] landedOrder = new int[MAX_CHANGES];
    private int landedCount;
    // Working space, kept so that no call has to make it anew.
    private final Script script = new Script();
    private final Ways ways = new Ways();
    private final Ancestry ancestry = new Ancestry();
    private final Merger merger = new Merger();

    public ReviewBench() {
        Arrays.fill(owners, NONE);
    }

    // ---- owners, changes and rounds

    public int giveRange(int low, int high, int user)
            throws IndexOutOfBoundsException, IllegalArgumentException, IllegalStateException {
        checkUser(user);
        checkContent(low);
        checkContent(high);
        if (low > high) {
            throw new IllegalArgumentException("the low content is greater than the high one");
        }
        if (rangeCount >= MAX_RANGES) {
            throw new IllegalStateException("all ranges are given");
        }
        for (int content = low; content <= high; content++) {
            put(owners, content, user);
        }
        rangeCount++;
        return rangeCount;
    }

    public int open(int author) throws IndexOutOfBoundsException, IllegalStateException {
        checkUser(author);
        if (changeCount >= changes.length) {
            throw new IllegalStateException("all changes are open");
        }
        int number = changeCount;
        changes[number] = new Change(number, author, main);
        changeCount++;
        return number;
    }

    public int addLine(int change, int content)
            throws IndexOutOfBoundsException, IllegalArgumentException, IllegalStateException {
        Change changed = changeOf(change);
        checkContent(content);
        checkNotLanded(changed);
        if (changed.draft.size() >= MAX_LINES) {
            throw new IllegalStateException("the draft is full");
        }
        changed.draft.append(content);
        return changed.draft.size();
    }

    public int lay(int change) throws IndexOutOfBoundsException, IllegalStateException {
        Change changed = changeOf(change);
        checkNotLanded(changed);
        if (changed.roundCount >= MAX_ROUNDS) {
            throw new IllegalStateException("the change has all its rounds");
        }
        changed.addRound();
        return changed.roundCount - 1;
    }

    public int landAfter(int change, int other)
            throws IndexOutOfBoundsException, IllegalStateException, UnsupportedOperationException {
        Change later = changeOf(change);
        Change earlier = changeOf(other);
        checkNotLanded(later);
        if (change == other || hasBit(allBefore(earlier), change)) {
            throw new UnsupportedOperationException("a change can't land after itself");
        }
        later.before = withBit(later.before, other);
        return Integer.bitCount(later.before);
    }

    public int setPriority(int change, int priority)
            throws IndexOutOfBoundsException, IllegalArgumentException {
        Change changed = changeOf(change);
        if (priority < 0 || priority > MAX_PRIORITY) {
            throw new IllegalArgumentException("no such priority");
        }
        int priorityBefore = changed.priority;
        changed.priority = priority;
        return priorityBefore;
    }

    // ---- comments and approvals

    public int comment(int change, int line)
            throws IndexOutOfBoundsException, NoSuchElementException, IllegalStateException {
        Change changed = changeOf(change);
        if (changed.roundCount == 0 || !changed.presentText().has(line)) {
            throw new NoSuchElementException("no such line in the present round");
        }
        checkNotLanded(changed);
        if (remarkCount >= remarks.length) {
            throw new IllegalStateException("all comments are made");
        }
        int number = remarkCount;
        remarks[number] = new Remark(changed, changed.roundCount - 1, line);
        remarkCount++;
        return number;
    }

    public int resolve(int comment) throws IndexOutOfBoundsException, IllegalStateException {
        Remark remark = remarkOf(comment);
        if (remark.resolved) {
            throw new IllegalStateException("the comment is resolved");
        }
        remark.resolved = true;
        return countOpen(remark.change);
    }

    public int approve(int change, int user)
            throws IndexOutOfBoundsException, NoSuchElementException, IllegalStateException {
        Change changed = changeOf(change);
        checkUser(user);
        checkHasRound(changed);
        checkNotLanded(changed);
        if (user == changed.author) {
            throw new IllegalStateException("the author can't approve");
        }
        put(changed.approvedRounds, user, changed.roundCount - 1);
        return Integer.bitCount(freshUsers(changed));
    }

    public int withdraw(int change, int user)
            throws IndexOutOfBoundsException, NoSuchElementException, IllegalStateException {
        Change changed = changeOf(change);
        checkUser(user);
        checkApproved(changed, user);
        checkNotLanded(changed);
        put(changed.approvedRounds, user, NONE);
        return Integer.bitCount(freshUsers(changed));
    }

    // ---- landing

    public int land(int change) throws IndexOutOfBoundsException, UnsupportedOperationException {
        Change changed = changeOf(change);
        if (reasonFor(changed) != NO_REASON) {
            throw new UnsupportedOperationException("there is a reason against landing");
        }
        bringIn(changed);
        return main.size();
    }

    public int landAll() {
        int landedBefore = landedCount;
        for (int turn = 0; turn < MAX_CHANGES; turn++) {
            Change best = null;
            for (int number = 0; number < changes.length; number++) {
                Change next = changes[number];
                if (next != null && (best == null || next.priority > best.priority)
                        && reasonFor(next) == NO_REASON) {
                    best = next;
                }
            }
            if (best == null) {
                break;
            }
            bringIn(best);
        }
        return landedCount - landedBefore;
    }

    public char reasonAgainst(int change) throws IndexOutOfBoundsException, NoSuchElementException {
        char reason = reasonFor(changeOf(change));
        if (reason == NO_REASON) {
            throw new NoSuchElementException("there is no reason against landing");
        }
        return reason;
    }

    public int missingUser(int change) throws IndexOutOfBoundsException, NoSuchElementException {
        Change changed = changeOf(change);
        checkHasRound(changed);
        int missing = neededUsers(changed) & ~freshUsers(changed);
        for (int user = 0; user < USERS; user++) {
            if (hasBit(missing, user)) {
                return user;
            }
        }
        throw new NoSuchElementException("no approval is missing");
    }

    public int landedAt(int position) throws NoSuchElementException {
        if (position < 0 || position >= landedCount) {
            throw new NoSuchElementException("no such position");
        }
        return cell(landedOrder, position);
    }

    // ---- texts

    public int mainLines() {
        return main.size();
    }

    public int mainLine(int line) throws NoSuchElementException {
        checkLine(main, line);
        return main.at(line);
    }

    public int rounds(int change) throws IndexOutOfBoundsException {
        return changeOf(change).roundCount;
    }

    public int lines(int change, int round) throws IndexOutOfBoundsException, NoSuchElementException {
        return roundOf(changeOf(change), round).size();
    }

    public int lineAt(int change, int round, int line)
            throws IndexOutOfBoundsException, NoSuchElementException {
        Text text = roundOf(changeOf(change), round);
        checkLine(text, line);
        return text.at(line);
    }

    public int edits(int change, int from, int to)
            throws IndexOutOfBoundsException, NoSuchElementException {
        Change changed = changeOf(change);
        script.find(roundOf(changed, from), roundOf(changed, to));
        return script.size();
    }

    public int editsByWays(int change, int from, int to)
            throws IndexOutOfBoundsException, NoSuchElementException {
        Change changed = changeOf(change);
        return ways.fewestEdits(roundOf(changed, from), roundOf(changed, to));
    }

    public int ownerOf(int content) throws IllegalArgumentException, NoSuchElementException {
        checkContent(content);
        int owner = cell(owners, content);
        if (owner == NONE) {
            throw new NoSuchElementException("the line has no owner");
        }
        return owner;
    }

    public boolean needs(int change, int user) throws IndexOutOfBoundsException {
        Change changed = changeOf(change);
        checkUser(user);
        return hasBit(neededUsers(changed), user);
    }

    // ---- comments and approvals, asked

    public int placeIn(int comment, int round) throws IndexOutOfBoundsException, NoSuchElementException {
        Remark remark = remarkOf(comment);
        checkPlaceAsked(remark, round);
        return placeOrThrow(placeForwards(remark, round));
    }

    public int placeByComparing(int comment, int round)
            throws IndexOutOfBoundsException, NoSuchElementException {
        Remark remark = remarkOf(comment);
        checkPlaceAsked(remark, round);
        return placeOrThrow(placeBackwards(remark, round));
    }

    public boolean isOpen(int comment) throws IndexOutOfBoundsException {
        return !remarkOf(comment).resolved;
    }

    public int openComments(int change) throws IndexOutOfBoundsException {
        return countOpen(changeOf(change));
    }

    public boolean hasApproved(int change, int user) throws IndexOutOfBoundsException {
        Change changed = changeOf(change);
        checkUser(user);
        return changed.isApprovedBy(user);
    }

    public boolean isStale(int change, int user) throws IndexOutOfBoundsException, NoSuchElementException {
        Change changed = changeOf(change);
        checkUser(user);
        checkApproved(changed, user);
        return !hasBit(freshUsers(changed), user);
    }

    // ---- what the calls look up, or throw for

    private Change changeOf(int number) {
        Change change = number >= 0 && number < changes.length ? changes[number] : null;
        if (change == null) {
            throw new IndexOutOfBoundsException("no such change");
        }
        return change;
    }

    private Remark remarkOf(int number) {
        Remark remark = number >= 0 && number < remarks.length ? remarks[number] : null;
        if (remark == null) {
            throw new IndexOutOfBoundsException("no such comment");
        }
        return remark;
    }

    private static Text roundOf(Change change, int round) {
        checkRound(change, round);
        return change.textOf(round);
    }

    private static void checkUser(int user) {
        if (user < 0 || user >= USERS) {
            throw new IndexOutOfBoundsException("no such user");
        }
    }

    private static void checkContent(int content) {
        if (content < 0 || content >= CONTENTS) {
            throw new IllegalArgumentException("no such content");
        }
    }

    private static void checkNotLanded(Change change) {
        if (change.landed) {
            throw new IllegalStateException("the change has landed");
        }
    }

    private static void checkHasRound(Change change) {
        if (change.roundCount == 0) {
            throw new NoSuchElementException("the change has no round");
        }
    }

    private static void checkRound(Change change, int round) {
        if (round < 0 || round >= change.roundCount) {
            throw new NoSuchElementException("the change has no such round");
        }
    }

    private static void checkLine(Text text, int line) {
        if (!text.has(line)) {
            throw new NoSuchElementException("no such line");
        }
    }

    private static void checkApproved(Change change, int user) {
        if (!change.isApprovedBy(user)) {
            throw new NoSuchElementException("the user has not approved the change");
        }
    }

    private static void checkPlaceAsked(Remark remark, int round) {
        checkRound(remark.change, round);
        if (round < remark.round) {
            throw new NoSuchElementException("the comment was made in a later round");
        }
    }

    private static int placeOrThrow(int place) {
        if (place == NONE) {
            throw new NoSuchElementException("the comment is gone");
        }
        return place;
    }

    // ---- rows of numbers and bits, whose indices are looked at here

    private static int cell(int[] row, int index) {
        return index >= 0 && index < row.length ? row[index] : NONE;
    }

    private static void put(int[] row, int index, int value) {
        if (index >= 0 && index < row.length) {
            row[index] = value;
        }
    }

    private static boolean hasBit(int bits, int bit) {
        return (bits >> bit & 1) != 0;
    }

    private static int withBit(int bits, int bit) {
        return bits | 1 << bit;
    }

    private static int withoutBit(int bits, int bit) {
        return bits & ~(1 << bit);
    }

    /** The index at which a table of one row for two texts holds what it knows of line i and line j. */
    private static int place(int i, int j) {
        return i * TABLE_SIDE + j;
    }

    // ---- landing, found out

    private char reasonFor(Change change) {
        if (change.landed) {
            return 'l';
        }
        if (change.roundCount == 0) {
            return 'r';
        }
        if (waitsForAnother(change)) {
            return 'd';
        }
        if (countOpen(change) > 0) {
            return 'c';
        }
        if ((neededUsers(change) & ~freshUsers(change)) != 0) {
            return 'a';
        }
        merger.merge(change.base, main, change.presentText());
        if (merger.conflict) {
            return 'm';
        }
        return merger.merged.size() > MAX_LINES ? 's' : NO_REASON;
    }

    /** Lands a change against which there is no reason. */
    private void bringIn(Change change) {
        merger.merge(change.base, main, change.presentText());
        main.copy(merger.merged);
        change.landed = true;
        put(landedOrder, landedCount, change.number);
        landedCount++;
    }

    private boolean waitsForAnother(Change change) {
        for (int number = 0; number < changes.length; number++) {
            Change other = changes[number];
            if (other != null && hasBit(change.before, number) && !other.landed) {
                return true;
            }
        }
        return false;
    }

    /** The changes after which a change has to land, directly or over others, as bits. */
    private int allBefore(Change change) {
        int before = change.before;
        // A way over others is shorter than the number of changes, and each turn goes one step on.
        for (int turn = 0; turn < MAX_CHANGES; turn++) {
            for (int number = 0; number < changes.length; number++) {
                Change other = changes[number];
                if (other != null && hasBit(before, number)) {
                    before |= other.before;
                }
            }
        }
        return before;
    }

    // ---- approvals, found out; sets of users are bits

    /** The users whose approval a change needs. */
    private int neededUsers(Change change) {
        if (change.roundCount == 0) {
            return 0;
        }
        return withoutBit(alteredOwners(change.base, change.presentText()), change.author);
    }

    /** The users who have approved a change and whose approvals are not stale. */
    private int freshUsers(Change change) {
        int fresh = 0;
        int alteredSince = 0;
        for (int round = change.roundCount - 1; round >= 0; round--) {
            fresh |= change.approversOf(round) & ~alteredSince;
            if (round > 0) {
                alteredSince |= alteredOwners(change.textOf(round - 1), change.textOf(round));
            }
        }
        return fresh;
    }

    /** The owners of the lines that the script from one text to another removes or adds. */
    private int alteredOwners(Text first, Text second) {
        script.find(first, second);
        int altered = 0;
        for (int edit = 0; edit < script.size(); edit++) {
            int owner = cell(owners, script.alteredContent(edit));
            if (owner != NONE) {
                altered = withBit(altered, owner);
            }
        }
        return altered;
    }

    // ---- comments, found out

    private int countOpen(Change change) {
        int count = 0;
        for (int number = 0; number < remarks.length; number++) {
            Remark remark = remarks[number];
            if (remark != null && remark.change == change && !remark.resolved) {
                count++;
            }
        }
        return count;
    }

    private int placeForwards(Remark remark, int round) {
        int place = remark.line;
        for (int step = remark.round; step < round && place != NONE; step++) {
            script.find(remark.change.textOf(step), remark.change.textOf(step + 1));
            place = script.keptAs(place);
        }
        return place;
    }

    private int placeBackwards(Remark remark, int round) {
        int size = remark.change.textOf(round).size();
        for (int line = 0; line < size; line++) {
            if (lineWhenMade(remark, round, line) == remark.line) {
                return line;
            }
        }
        return NONE;
    }

    /** The number that a line of a round had in the round in which a comment was made. */
    private int lineWhenMade(Remark remark, int round, int line) {
        int place = line;
        for (int step = round; step > remark.round && place != NONE; step--) {
            place = ancestry.lineBefore(
                    remark.change.textOf(step - 1), remark.change.textOf(step), place);
        }
        return place;
    }

    /** A row of lines, each of which is its content. */
    private static final class Text {
        // Twice what a text may have, so that a merged text can be made before it is refused.
        private final int[] contents = new int[2 * MAX_LINES];
        private int size;

        int size() {
            return size;
        }

        boolean has(int line) {
            return line >= 0 && line < size;
        }

        int at(int line) {
            return line >= 0 && line < size && line < contents.length ? contents[line] : NONE;
        }

        void clear() {
            size = 0;
        }

        void append(int content) {
            if (size < contents.length) {
                put(contents, size, content);
                size++;
            }
        }

        void appendRow(Text other, int from, int to) {
            for (int line = from; line < to; line++) {
                append(other.at(line));
            }
        }

        void copy(Text other) {
            copyRow(other, 0, other.size);
        }

        void copyRow(Text other, int from, int to) {
            clear();
            appendRow(other, from, to);
        }

        boolean isSameAs(Text other) {
            boolean same = size == other.size;
            for (int line = 0; line < size && same; line++) {
                same = at(line) == other.at(line);
            }
            return same;
        }
    }

    private static final class Change {
        private final int number;
        private final int author;
        private final Text base = new Text();
        private final Text draft = new Text();
        private final Text[] rounds = new Text[MAX_ROUNDS];
        // Stands for a round that is not there, so that no caller meets null.
        private final Text nothing = new Text();
        private int roundCount;
        private int priority;
        private boolean landed;
        // The changes after which this one has to land itself, as bits.
        private int before;
        // By user: the round that the user has approved, or NONE.
        private final int[] approvedRounds = new int[USERS];

        Change(int number, int author, Text main) {
            this.number = number;
            this.author = author;
            base.copy(main);
            Arrays.fill(approvedRounds, NONE);
        }

        void addRound() {
            if (roundCount < rounds.length) {
                Text laid = new Text();
                laid.copy(draft);
                rounds[roundCount] = laid;
                roundCount++;
                draft.clear();
            }
        }

        Text textOf(int round) {
            Text text = round >= 0 && round < rounds.length ? rounds[round] : null;
            return text == null ? nothing : text;
        }

        Text presentText() {
            return textOf(roundCount - 1);
        }

        boolean isApprovedBy(int user) {
            return cell(approvedRounds, user) != NONE;
        }

        /** The users whose approval was given for a round, as bits. */
        int approversOf(int round) {
            int approvers = 0;
            for (int user = 0; user < USERS; user++) {
                if (cell(approvedRounds, user) == round) {
                    approvers = withBit(approvers, user);
                }
            }
            return approvers;
        }
    }

    /** A comment. */
    private static final class Remark {
        private final Change change;
        private final int round;
        private final int line;
        private boolean resolved;

        Remark(Change change, int round, int line) {
            this.change = change;
            this.round = round;
            this.line = line;
        }
    }

    /** The script from one text to another, found with a table of the edits that the rests of both need. */
    private static final class Script {
        private final int[] rests = new int[TABLE_SIDE * TABLE_SIDE];
        // By line of the first text: the line of the second one as which it is kept, or NONE.
        private final int[] keptAs = new int[MAX_LINES];
        private final int[] altered = new int[2 * MAX_LINES];
        private int size;

        void find(Text first, Text second) {
            fillRests(first, second);
            follow(first, second);
        }

        /** The number of edits. */
        int size() {
            return size;
        }

        int keptAs(int line) {
            return cell(keptAs, line);
        }

        /** The content of a removed or added line, by the number of the edit. */
        int alteredContent(int edit) {
            return cell(altered, edit);
        }

        private void fillRests(Text first, Text second) {
            int firstSize = first.size();
            int secondSize = second.size();
            for (int i = firstSize; i >= 0; i--) {
                for (int j = secondSize; j >= 0; j--) {
                    int rest;
                    if (i == firstSize || j == secondSize) {
                        rest = firstSize - i + secondSize - j;
                    } else if (first.at(i) == second.at(j)) {
                        rest = cell(rests, place(i + 1, j + 1));
                    } else {
                        rest = 1 + Math.min(cell(rests, place(i + 1, j)), cell(rests, place(i, j + 1)));
                    }
                    put(rests, place(i, j), rest);
                }
            }
        }

        private void follow(Text first, Text second) {
            int i = 0;
            int j = 0;
            size = 0;
            for (int step = 0; step < first.size() + second.size(); step++) {
                if (first.has(i) && second.has(j) && first.at(i) == second.at(j)) {
                    put(keptAs, i, j);
                    i++;
                    j++;
                } else if (first.has(i) && (!second.has(j)
                        || cell(rests, place(i + 1, j)) <= cell(rests, place(i, j + 1)))) {
                    put(keptAs, i, NONE);
                    alter(first.at(i));
                    i++;
                } else if (second.has(j)) {
                    alter(second.at(j));
                    j++;
                }
            }
        }

        private void alter(int content) {
            if (size >= 0 && size < altered.length) {
                altered[size] = content;
                size++;
            }
        }
    }

    /** Counts the edits between two texts by the farthest ways that each number of edits allows. */
    private static final class Ways {
        // One more than the most edits, since a way looks at the diagonals on both sides.
        private static final int MIDDLE = 2 * MAX_LINES + 1;

        // By diagonal: how many lines of the first text the farthest way on it has behind it.
        private final int[] farthest = new int[2 * MIDDLE + 1];

        int fewestEdits(Text first, Text second) {
            int most = first.size() + second.size();
            put(farthest, MIDDLE + 1, 0);
            for (int edits = 0; edits < most; edits++) {
                for (int diagonal = -edits; diagonal <= edits; diagonal += 2) {
                    int reached = goAlong(first, second, diagonal, start(edits, diagonal));
                    put(farthest, MIDDLE + diagonal, reached);
                    if (reached >= first.size() && reached - diagonal >= second.size()) {
                        return edits;
                    }
                }
            }
            return most;
        }

        private int start(int edits, int diagonal) {
            int byAdding = cell(farthest, MIDDLE + diagonal + 1);
            int byRemoving = cell(farthest, MIDDLE + diagonal - 1) + 1;
            if (diagonal == -edits) {
                return byAdding;
            }
            return diagonal == edits ? byRemoving : Math.max(byAdding, byRemoving);
        }

        private static int goAlong(Text first, Text second, int diagonal, int start) {
            int reached = start;
            for (; reached < first.size() && reached - diagonal < second.size(); reached++) {
                if (first.at(reached) != second.at(reached - diagonal)) {
                    return reached;
                }
            }
            return reached;
        }
    }

    /** Finds where a line was in the text before, by the lines that the rests of both have in common. */
    private static final class Ancestry {
        private final int[] commons = new int[TABLE_SIDE * TABLE_SIDE];

        int lineBefore(Text before, Text after, int line) {
            countCommons(before, after);
            int i = 0;
            int j = 0;
            for (int step = 0; step < before.size() + after.size() && before.has(i) && j <= line; step++) {
                if (before.at(i) == after.at(j)) {
                    if (j == line) {
                        return i;
                    }
                    i++;
                    j++;
                } else if (cell(commons, place(i + 1, j)) >= cell(commons, place(i, j + 1))) {
                    i++;
                } else {
                    j++;
                }
            }
            return NONE;
        }

        private void countCommons(Text before, Text after) {
            for (int i = before.size(); i >= 0; i--) {
                for (int j = after.size(); j >= 0; j--) {
                    int common = 0;
                    if (before.has(i) && after.has(j)) {
                        common = before.at(i) == after.at(j)
                                ? 1 + cell(commons, place(i + 1, j + 1))
                                : Math.max(cell(commons, place(i + 1, j)), cell(commons, place(i, j + 1)));
                    }
                    put(commons, place(i, j), common);
                }
            }
        }
    }

    /** Merges what has changed from a base to the main text and to a round. */
    private static final class Merger {
        private final Script toMain = new Script();
        private final Script toRound = new Script();
        private final Text baseRow = new Text();
        private final Text mainRow = new Text();
        private final Text roundRow = new Text();
        private final Text merged = new Text();
        private boolean conflict;

        void merge(Text base, Text main, Text round) {
            toMain.find(base, main);
            toRound.find(base, round);
            merged.clear();
            conflict = false;
            int baseFrom = 0;
            int mainFrom = 0;
            int roundFrom = 0;
            for (int line = 0; line < base.size(); line++) {
                int inMain = toMain.keptAs(line);
                int inRound = toRound.keptAs(line);
                if (inMain != NONE && inRound != NONE) {
                    baseRow.copyRow(base, baseFrom, line);
                    mainRow.copyRow(main, mainFrom, inMain);
                    roundRow.copyRow(round, roundFrom, inRound);
                    mergeRows();
                    merged.append(base.at(line));
                    baseFrom = line + 1;
                    mainFrom = inMain + 1;
                    roundFrom = inRound + 1;
                }
            }
            baseRow.copyRow(base, baseFrom, base.size());
            mainRow.copyRow(main, mainFrom, main.size());
            roundRow.copyRow(round, roundFrom, round.size());
            mergeRows();
        }

        private void mergeRows() {
            if (mainRow.isSameAs(baseRow)) {
                merged.appendRow(roundRow, 0, roundRow.size());
            } else if (roundRow.isSameAs(baseRow) || roundRow.isSameAs(mainRow)) {
                merged.appendRow(mainRow, 0, mainRow.size());
            } else {
                conflict = true;
            }
        }
    }
}
