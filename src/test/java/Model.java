import java.util.ArrayList;
import java.util.List;
import java.util.NoSuchElementException;
import java.util.TreeSet;

/** The document said again, as plainly as can be, with the Java library: what ReviewBench is compared with. */
final class Model {
    private static final class Edit {
        final char kind;
        final int first;
        final int second;
        final int content;

        Edit(char kind, int first, int second, int content) {
            this.kind = kind;
            this.first = first;
            this.second = second;
            this.content = content;
        }
    }

    private static final class Change {
        int author;
        List<Integer> base;
        List<Integer> draft = new ArrayList<>();
        List<List<Integer>> rounds = new ArrayList<>();
        TreeSet<Integer> after = new TreeSet<>();
        int priority = 0;
        boolean landed = false;
        Integer[] approvals = new Integer[5];

        List<Integer> present() {
            return rounds.get(rounds.size() - 1);
        }
    }

    private static final class Comment {
        int change;
        int round;
        int line;
        boolean open = true;
    }

    private List<Integer> main = new ArrayList<>();
    private final List<int[]> ranges = new ArrayList<>();
    private final List<Change> changes = new ArrayList<>();
    private final List<Comment> comments = new ArrayList<>();
    private final List<Integer> landed = new ArrayList<>();

    // ---- scripts

    static int fewest(List<Integer> a, List<Integer> b) {
        int[][] common = new int[a.size() + 1][b.size() + 1];
        for (int i = 1; i <= a.size(); i++) {
            for (int j = 1; j <= b.size(); j++) {
                common[i][j] = a.get(i - 1).equals(b.get(j - 1))
                        ? common[i - 1][j - 1] + 1 : Math.max(common[i - 1][j], common[i][j - 1]);
            }
        }
        return a.size() + b.size() - 2 * common[a.size()][b.size()];
    }

    static List<Edit> script(List<Integer> a, List<Integer> b) {
        List<Edit> edits = new ArrayList<>();
        int i = 0;
        int j = 0;
        while (i < a.size() || j < b.size()) {
            if (i < a.size() && j < b.size() && a.get(i).equals(b.get(j))) {
                edits.add(new Edit('k', i, j, a.get(i)));
                i++;
                j++;
                continue;
            }
            boolean remove;
            if (i == a.size()) {
                remove = false;
            } else if (j == b.size()) {
                remove = true;
            } else {
                int ifRemoved = fewest(a.subList(i + 1, a.size()), b.subList(j, b.size()));
                int ifAdded = fewest(a.subList(i, a.size()), b.subList(j + 1, b.size()));
                remove = ifRemoved <= ifAdded;
            }
            if (remove) {
                edits.add(new Edit('r', i, -1, a.get(i)));
                i++;
            } else {
                edits.add(new Edit('a', -1, j, b.get(j)));
                j++;
            }
        }
        return edits;
    }

    private static Integer keptAs(List<Integer> a, List<Integer> b, int line) {
        for (Edit edit : script(a, b)) {
            if (edit.kind == 'k' && edit.first == line) {
                return edit.second;
            }
        }
        return null;
    }

    private boolean alters(List<Integer> a, List<Integer> b, int user) {
        for (Edit edit : script(a, b)) {
            Integer owner = owner(edit.content);
            if (edit.kind != 'k' && owner != null && owner == user) {
                return true;
            }
        }
        return false;
    }

    private Integer owner(int content) {
        Integer owner = null;
        for (int[] range : ranges) {
            if (range[0] <= content && content <= range[1]) {
                owner = range[2];
            }
        }
        return owner;
    }

    // ---- checks

    private Change change(int number) {
        if (number < 0 || number >= changes.size()) {
            throw new IndexOutOfBoundsException();
        }
        return changes.get(number);
    }

    private Comment commentOf(int number) {
        if (number < 0 || number >= comments.size()) {
            throw new IndexOutOfBoundsException();
        }
        return comments.get(number);
    }

    private static void user(int user) {
        if (user < 0 || user > 4) {
            throw new IndexOutOfBoundsException();
        }
    }

    private static List<Integer> round(Change change, int round) {
        if (round < 0 || round >= change.rounds.size()) {
            throw new NoSuchElementException();
        }
        return change.rounds.get(round);
    }

    // ---- owners, changes and rounds

    int giveRange(int low, int high, int user) {
        user(user);
        if (low < 0 || low > 99 || high < 0 || high > 99 || low > high) {
            throw new IllegalArgumentException();
        }
        if (ranges.size() == 6) {
            throw new IllegalStateException();
        }
        ranges.add(new int[] {low, high, user});
        return ranges.size();
    }

    int open(int author) {
        user(author);
        if (changes.size() == 4) {
            throw new IllegalStateException();
        }
        Change change = new Change();
        change.author = author;
        change.base = new ArrayList<>(main);
        changes.add(change);
        return changes.size() - 1;
    }

    int addLine(int number, int content) {
        Change change = change(number);
        if (content < 0 || content > 99) {
            throw new IllegalArgumentException();
        }
        if (change.landed || change.draft.size() == 12) {
            throw new IllegalStateException();
        }
        change.draft.add(content);
        return change.draft.size();
    }

    int lay(int number) {
        Change change = change(number);
        if (change.landed || change.rounds.size() == 4) {
            throw new IllegalStateException();
        }
        change.rounds.add(change.draft);
        change.draft = new ArrayList<>();
        return change.rounds.size() - 1;
    }

    private boolean leadsTo(int from, int to) {
        for (int next : changes.get(from).after) {
            if (next == to || leadsTo(next, to)) {
                return true;
            }
        }
        return false;
    }

    int landAfter(int number, int other) {
        Change change = change(number);
        change(other);
        if (change.landed) {
            throw new IllegalStateException();
        }
        if (number == other || leadsTo(other, number)) {
            throw new UnsupportedOperationException();
        }
        change.after.add(other);
        return change.after.size();
    }

    int setPriority(int number, int priority) {
        Change change = change(number);
        if (priority < 0 || priority > 9) {
            throw new IllegalArgumentException();
        }
        int before = change.priority;
        change.priority = priority;
        return before;
    }

    // ---- comments and approvals

    int comment(int number, int line) {
        Change change = change(number);
        if (change.rounds.isEmpty() || line < 0 || line >= change.present().size()) {
            throw new NoSuchElementException();
        }
        if (change.landed || comments.size() == 12) {
            throw new IllegalStateException();
        }
        Comment comment = new Comment();
        comment.change = number;
        comment.round = change.rounds.size() - 1;
        comment.line = line;
        comments.add(comment);
        return comments.size() - 1;
    }

    int resolve(int number) {
        Comment comment = commentOf(number);
        if (!comment.open) {
            throw new IllegalStateException();
        }
        comment.open = false;
        return openComments(comment.change);
    }

    private int fresh(int number) {
        int count = 0;
        for (int user = 0; user < 5; user++) {
            if (hasApproved(number, user) && !isStale(number, user)) {
                count++;
            }
        }
        return count;
    }

    int approve(int number, int user) {
        Change change = change(number);
        user(user);
        if (change.rounds.isEmpty()) {
            throw new NoSuchElementException();
        }
        if (change.landed || change.author == user) {
            throw new IllegalStateException();
        }
        change.approvals[user] = change.rounds.size() - 1;
        return fresh(number);
    }

    int withdraw(int number, int user) {
        Change change = change(number);
        user(user);
        if (change.approvals[user] == null) {
            throw new NoSuchElementException();
        }
        if (change.landed) {
            throw new IllegalStateException();
        }
        change.approvals[user] = null;
        return fresh(number);
    }

    // ---- landing

    /** The merged text, or null if there is a conflict. */
    private List<Integer> merged(Change change) {
        List<Integer> base = change.base;
        List<Integer> round = change.present();
        List<Integer> merged = new ArrayList<>();
        int b = 0;
        int m = 0;
        int r = 0;
        for (int line = 0; line <= base.size(); line++) {
            boolean behind = line == base.size();
            Integer inMain = behind ? Integer.valueOf(main.size()) : keptAs(base, main, line);
            Integer inRound = behind ? Integer.valueOf(round.size()) : keptAs(base, round, line);
            if (inMain == null || inRound == null) {
                continue;
            }
            List<Integer> ofBase = base.subList(b, line);
            List<Integer> ofMain = main.subList(m, inMain);
            List<Integer> ofRound = round.subList(r, inRound);
            if (ofMain.equals(ofBase)) {
                merged.addAll(ofRound);
            } else if (ofRound.equals(ofBase) || ofRound.equals(ofMain)) {
                merged.addAll(ofMain);
            } else {
                return null;
            }
            if (!behind) {
                merged.add(base.get(line));
            }
            b = line + 1;
            m = inMain + 1;
            r = inRound + 1;
        }
        return merged;
    }

    /** The reason, or 0 if there is none. */
    private char reason(int number) {
        Change change = changes.get(number);
        if (change.landed) {
            return 'l';
        }
        if (change.rounds.isEmpty()) {
            return 'r';
        }
        for (int other : change.after) {
            if (!changes.get(other).landed) {
                return 'd';
            }
        }
        if (openComments(number) > 0) {
            return 'c';
        }
        if (missing(number) != null) {
            return 'a';
        }
        List<Integer> merged = merged(change);
        if (merged == null) {
            return 'm';
        }
        return merged.size() > 12 ? 's' : 0;
    }

    private Integer missing(int number) {
        for (int user = 0; user < 5; user++) {
            if (needs(number, user) && !(hasApproved(number, user) && !isStale(number, user))) {
                return user;
            }
        }
        return null;
    }

    int land(int number) {
        Change change = change(number);
        if (reason(number) != 0) {
            throw new UnsupportedOperationException();
        }
        main = merged(change);
        change.landed = true;
        landed.add(number);
        return main.size();
    }

    int landAll() {
        int count = 0;
        while (true) {
            int best = -1;
            for (int priority = 9; priority >= 0 && best < 0; priority--) {
                for (int number = 0; number < changes.size() && best < 0; number++) {
                    if (changes.get(number).priority == priority && reason(number) == 0) {
                        best = number;
                    }
                }
            }
            if (best < 0) {
                return count;
            }
            land(best);
            count++;
        }
    }

    char reasonAgainst(int number) {
        change(number);
        if (reason(number) == 0) {
            throw new NoSuchElementException();
        }
        return reason(number);
    }

    int missingUser(int number) {
        Change change = change(number);
        if (change.rounds.isEmpty() || missing(number) == null) {
            throw new NoSuchElementException();
        }
        return missing(number);
    }

    int landedAt(int position) {
        if (position < 0 || position >= landed.size()) {
            throw new NoSuchElementException();
        }
        return landed.get(position);
    }

    // ---- texts

    int mainLines() {
        return main.size();
    }

    int mainLine(int line) {
        if (line < 0 || line >= main.size()) {
            throw new NoSuchElementException();
        }
        return main.get(line);
    }

    int rounds(int number) {
        return change(number).rounds.size();
    }

    int lines(int number, int round) {
        return round(change(number), round).size();
    }

    int lineAt(int number, int round, int line) {
        List<Integer> text = round(change(number), round);
        if (line < 0 || line >= text.size()) {
            throw new NoSuchElementException();
        }
        return text.get(line);
    }

    int edits(int number, int from, int to) {
        Change change = change(number);
        return fewest(round(change, from), round(change, to));
    }

    int ownerOf(int content) {
        if (content < 0 || content > 99) {
            throw new IllegalArgumentException();
        }
        if (owner(content) == null) {
            throw new NoSuchElementException();
        }
        return owner(content);
    }

    boolean needs(int number, int user) {
        Change change = change(number);
        user(user);
        return !change.rounds.isEmpty() && user != change.author && alters(change.base, change.present(), user);
    }

    // ---- comments and approvals, asked

    int placeIn(int number, int round) {
        Comment comment = commentOf(number);
        Change change = changes.get(comment.change);
        round(change, round);
        if (comment.round > round) {
            throw new NoSuchElementException();
        }
        Integer line = comment.line;
        for (int step = comment.round; step < round; step++) {
            line = keptAs(change.rounds.get(step), change.rounds.get(step + 1), line);
            if (line == null) {
                throw new NoSuchElementException();
            }
        }
        return line;
    }

    boolean isOpen(int number) {
        return commentOf(number).open;
    }

    int openComments(int number) {
        change(number);
        int count = 0;
        for (Comment comment : comments) {
            if (comment.change == number && comment.open) {
                count++;
            }
        }
        return count;
    }

    boolean hasApproved(int number, int user) {
        Change change = change(number);
        user(user);
        return change.approvals[user] != null;
    }

    boolean isStale(int number, int user) {
        Change change = change(number);
        user(user);
        if (change.approvals[user] == null) {
            throw new NoSuchElementException();
        }
        for (int round = change.approvals[user]; round + 1 < change.rounds.size(); round++) {
            if (alters(change.rounds.get(round), change.rounds.get(round + 1), user)) {
                return true;
            }
        }
        return false;
    }
}
