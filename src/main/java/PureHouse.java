import java.util.ArrayList;
import java.util.List;
import java.util.NoSuchElementException;

/**
 * A house of pure type systems: tables of sorts, axioms and rules, a context of names, and texts
 * whose statements are done one by one, with all work counted.
 */
public final class PureHouse {
    /** There is none. */
    public static final int NONE = -1;

    private static final int TAPE_MOST = 4000;
    private static final int FED_AT_ONCE = 20;
    private static final int LIMIT_MOST = 20000;
    private static final int OWN_TABLES = 8;
    private static final int NEW_LINE = 10;

    private final byte[] tape = new byte[TAPE_MOST];
    private final Stop stop = new Stop();
    private final Book book = new Book();
    private final Machine machine = new Machine(book, stop);
    private final Reader reader = new Reader(tape, stop);
    private final Judge judge = new Judge(tape, book, machine, stop);
    private int tapeLength = 0;
    private int textFault = 0;
    private int textPlace = NONE;
    private int textDone = 0;

    public PureHouse() {
        book.loadCorner(7);
    }

    public int feed(int a, int b, int c, int d, int e) {
        if (tapeLength + FED_AT_ONCE > TAPE_MOST) {
            return NONE;
        }
        feedFour(a);
        feedFour(b);
        feedFour(c);
        feedFour(d);
        feedFour(e);
        return tapeLength;
    }

    public int text(int n) throws IllegalArgumentException {
        if (n < 0 || n > tapeLength) {
            throw new IllegalArgumentException();
        }
        tapeLength = 0;
        return runText(n);
    }

    public int fault(int what) throws NoSuchElementException {
        switch (what) {
            case 0:
                return textFault;
            case 1:
                return textPlace;
            case 2:
                return textDone;
            default:
                throw new NoSuchElementException();
        }
    }

    public int corner(int k) throws IllegalArgumentException {
        if (k < 0 || k > OWN_TABLES) {
            throw new IllegalArgumentException();
        }
        int before = book.names.size;
        book.loadCorner(k);
        return before;
    }

    public int limit(int n) throws IllegalArgumentException {
        if (n < 1 || n > LIMIT_MOST) {
            throw new IllegalArgumentException();
        }
        int before = machine.workMost;
        machine.workMost = n;
        return before;
    }

    public int outs() {
        return machine.outSize;
    }

    public int out(int k) throws NoSuchElementException {
        if (k < 0 || k >= machine.outSize || k >= machine.outBytes.length) {
            throw new NoSuchElementException();
        }
        return machine.outBytes[k];
    }

    public int count(int what) throws NoSuchElementException {
        if (what >= 0 && what < machine.done.length) {
            return machine.done[what];
        }
        switch (what) {
            case 7:
                return machine.lifeWork;
            case 8:
                return book.names.size;
            case 9:
                return book.sorts.size;
            case 10:
                return book.axiomCount;
            case 11:
                return book.ruleCount;
            case 12:
                return book.markCount;
            case 13:
                return tapeLength;
            default:
                throw new NoSuchElementException();
        }
    }

    public int name(int k, int what) throws NoSuchElementException {
        if (!book.names.has(k) || what < 0) {
            throw new NoSuchElementException();
        }
        switch (what) {
            case 0:
                return book.values[k] != null ? 1 : 0;
            case 1:
                return book.typeSorts[k];
            case 2:
                return book.names.lengths[k];
            default:
                return book.names.signOf(k, what - 3);
        }
    }

    public int sort(int k, int what) throws NoSuchElementException {
        if (!book.sorts.has(k) || what < 0) {
            throw new NoSuchElementException();
        }
        switch (what) {
            case 0:
                return book.axiomOf(k);
            case 1:
                return book.sorts.lengths[k];
            default:
                return book.sorts.signOf(k, what - 2);
        }
    }

    public int rule(int a, int b) throws NoSuchElementException {
        if (!book.sorts.has(a) || !book.sorts.has(b)) {
            throw new NoSuchElementException();
        }
        return book.ruleOf(a, b);
    }

    public int type(int k) throws NoSuchElementException {
        if (!book.names.has(k)) {
            throw new NoSuchElementException();
        }
        return tellTypeOf(book.types[k]);
    }

    public int same(int j, int k) throws NoSuchElementException {
        if (!book.names.has(j) || !book.names.has(k)) {
            throw new NoSuchElementException();
        }
        return compareNames(j, k);
    }

    public int mark() throws IllegalStateException {
        if (book.markCount >= book.marks.length) {
            throw new IllegalStateException();
        }
        book.marks[book.markCount] = book.names.size;
        book.markCount++;
        return book.markCount;
    }

    public int back() throws IllegalStateException {
        if (book.markCount <= 0 || book.markCount > book.marks.length) {
            throw new IllegalStateException();
        }
        book.markCount--;
        book.names.size = book.marks[book.markCount];
        return book.names.size;
    }

    private void feedFour(int number) {
        for (int shift = 24; shift >= 0 && tapeLength < TAPE_MOST; shift -= 8) {
            tape[tapeLength] = (byte) (number >> shift);
            tapeLength++;
        }
    }

    /** The whole text is read ahead of all else: a fault of its form leaves everything undone. */
    private int runText(int length) {
        machine.outSize = 0;
        stop.clear();
        textDone = 0;
        try {
            List<Statement> statements = reader.readText(length);
            for (int i = 0; i < statements.size(); i++) {
                perform(statements.get(i));
                textDone++;
            }
        } catch (IllegalStateException ended) {
            // What ended the text, and where, stands in stop.
        }
        textFault = stop.fault;
        textPlace = stop.place;
        return textFault;
    }

    private int tellTypeOf(Node told) {
        machine.begin(0);
        machine.outSize = 0;
        try {
            machine.tellWhole(told);
        } catch (IllegalStateException ended) {
            return -stop.fault;
        }
        return machine.outSize;
    }

    private int compareNames(int j, int k) {
        machine.begin(0);
        Node one = new Node(Node.CONSTANT, j);
        Node other = new Node(Node.CONSTANT, k);
        try {
            return machine.areSame(one, other) ? 1 : 0;
        } catch (IllegalStateException ended) {
            return -stop.fault;
        }
    }

    private void perform(Statement told) {
        machine.begin(told.at);
        switch (told.kind) {
            case Statement.SORT:
                addSort(told);
                break;
            case Statement.AXIOM:
                addAxiom(told);
                break;
            case Statement.RULE:
                addRule(told);
                break;
            case Statement.ASSUME:
                assume(told);
                break;
            case Statement.DEFINE:
                define(told);
                break;
            case Statement.CHECK:
                check(told);
                break;
            case Statement.NORM:
                judge.typeOf(told.first);
                machine.tellWhole(told.first);
                machine.put(NEW_LINE);
                break;
            case Statement.HEAD:
                judge.typeOf(told.first);
                machine.tellHead(told.first);
                machine.put(NEW_LINE);
                break;
            default:
                answerSame(told);
                break;
        }
    }

    private void addSort(Statement told) {
        refuseBesideNames(told);
        if (sortNumber(told.name) != NONE) {
            stop.set(4, told.name.at);
            throw new IllegalStateException();
        }
        if (book.sorts.isFull()) {
            stop.set(5, told.name.at);
            throw new IllegalStateException();
        }
        book.sorts.add(tape, told.name.nameAt, told.name.nameLength);
    }

    private void addAxiom(Statement told) {
        refuseBesideNames(told);
        int a = neededSort(told.name);
        int b = neededSort(told.first);
        if (book.axiomOf(a) != NONE) {
            stop.set(4, told.name.at);
            throw new IllegalStateException();
        }
        book.setAxiom(a, b);
    }

    private void addRule(Statement told) {
        refuseBesideNames(told);
        int a = neededSort(told.name);
        int b = neededSort(told.first);
        int c = neededSort(told.second);
        if (book.ruleOf(a, b) != NONE) {
            stop.set(4, told.name.at);
            throw new IllegalStateException();
        }
        book.setRule(a, b, c);
    }

    private void refuseBesideNames(Statement told) {
        if (book.names.size > 0) {
            stop.set(6, told.at);
            throw new IllegalStateException();
        }
    }

    private int neededSort(Node named) {
        int found = sortNumber(named);
        if (found == NONE) {
            stop.set(3, named.at);
            throw new IllegalStateException();
        }
        return found;
    }

    private int sortNumber(Node named) {
        return book.sorts.find(tape, named.nameAt, named.nameLength);
    }

    /** The name comes last: its own value cannot speak of it, and a fault leaves nothing behind. */
    private void assume(Statement told) {
        needNewName(told.name);
        int sort = judge.sortAsType(told.first);
        Node type = machine.normalForm(told.first, null);
        if (told.second != null) {
            needSame(type, judge.typeOf(told.second), told.second);
        }
        book.addName(tape, told.name, type, sort, told.second);
    }

    private void define(Statement told) {
        needNewName(told.name);
        Node type = judge.typeOf(told.first);
        book.addName(tape, told.name, type, judge.sortOfType, told.first);
    }

    private void check(Statement told) {
        if (told.second == null) {
            machine.tellWhole(judge.typeOf(told.first));
            machine.put(NEW_LINE);
            return;
        }
        judge.sortAsType(told.second);
        Node wanted = machine.normalForm(told.second, null);
        needSame(wanted, judge.typeOf(told.first), told.first);
        machine.putAnswer(true);
    }

    private void answerSame(Statement told) {
        judge.typeOf(told.first);
        judge.typeOf(told.second);
        machine.putAnswer(machine.areSame(told.first, told.second));
    }

    private void needNewName(Node named) {
        int known = book.names.find(tape, named.nameAt, named.nameLength);
        if (known != NONE || sortNumber(named) != NONE) {
            stop.set(4, named.at);
            throw new IllegalStateException();
        }
        if (book.names.isFull()) {
            stop.set(5, named.at);
            throw new IllegalStateException();
        }
    }

    private void needSame(Node wanted, Node type, Node term) {
        if (!machine.areSame(wanted, type)) {
            stop.set(11, term.start);
            throw new IllegalStateException();
        }
    }

    /** The fault that ended a text, a type() or a same(), for whoever catches the exception. */
    private static final class Stop {
        int fault = 0;
        int place = NONE;

        void clear() {
            fault = 0;
            place = NONE;
        }

        void set(int number, int where) {
            fault = number;
            place = where;
        }
    }

    /** A row of names, each of at most 12 signs. */
    private static final class Names {
        static final int SIGNS_MOST = 12;

        final byte[] signs;
        final int[] lengths;
        int size = 0;

        Names(int most) {
            signs = new byte[most * SIGNS_MOST];
            lengths = new int[most];
        }

        boolean has(int k) {
            return k >= 0 && k < size;
        }

        boolean isFull() {
            return size >= lengths.length;
        }

        int find(byte[] bytes, int at, int length) {
            for (int k = 0; k < size; k++) {
                if (lengths[k] == length && agree(signs, k * SIGNS_MOST, bytes, at, length)) {
                    return k;
                }
            }
            return NONE;
        }

        void add(byte[] bytes, int at, int length) {
            if (isFull() || length > SIGNS_MOST || at < 0 || at + length > bytes.length) {
                return;
            }
            for (int i = 0; i < length; i++) {
                signs[size * SIGNS_MOST + i] = bytes[at + i];
            }
            lengths[size] = length;
            size++;
        }

        int signOf(int k, int i) {
            if (k < 0 || k >= size || i < 0 || i >= lengths[k]) {
                return NONE;
            }
            return signs[k * SIGNS_MOST + i];
        }

        static boolean agree(byte[] ones, int oneAt, byte[] others, int otherAt, int length) {
            if (oneAt < 0 || oneAt + length > ones.length) {
                return false;
            }
            if (otherAt < 0 || otherAt + length > others.length) {
                return false;
            }
            for (int i = 0; i < length; i++) {
                if (ones[oneAt + i] != others[otherAt + i]) {
                    return false;
                }
            }
            return true;
        }
    }

    /** The tables, the context and its marks. */
    private static final class Book {
        static final int SORTS_MOST = 8;
        static final int NAMES_MOST = 100;
        static final int MARKS_MOST = 20;
        private static final byte[] CORNER_SIGNS = {'t', 'y', 'p', 'e', 'k', 'i', 'n', 'd'};

        final Names sorts = new Names(SORTS_MOST);
        final int[] axioms = new int[SORTS_MOST];
        final int[] rules = new int[SORTS_MOST * SORTS_MOST];
        int axiomCount = 0;
        int ruleCount = 0;
        final Names names = new Names(NAMES_MOST);
        final Node[] types = new Node[NAMES_MOST];
        final Node[] values = new Node[NAMES_MOST];
        final int[] typeSorts = new int[NAMES_MOST];
        final int[] marks = new int[MARKS_MOST];
        int markCount = 0;

        void loadCorner(int k) {
            clear();
            if (k == OWN_TABLES) {
                return;
            }
            sorts.add(CORNER_SIGNS, 0, 4);
            sorts.add(CORNER_SIGNS, 4, 4);
            setAxiom(0, 1);
            setRule(0, 0, 0);
            if ((k & 1) != 0) {
                setRule(1, 0, 0);
            }
            if ((k & 2) != 0) {
                setRule(1, 1, 1);
            }
            if ((k & 4) != 0) {
                setRule(0, 1, 1);
            }
        }

        private void clear() {
            sorts.size = 0;
            names.size = 0;
            markCount = 0;
            axiomCount = 0;
            ruleCount = 0;
            for (int i = 0; i < axioms.length; i++) {
                axioms[i] = NONE;
            }
            for (int i = 0; i < rules.length; i++) {
                rules[i] = NONE;
            }
        }

        int axiomOf(int a) {
            return sorts.has(a) ? axioms[a] : NONE;
        }

        void setAxiom(int a, int b) {
            if (sorts.has(a)) {
                axioms[a] = b;
                axiomCount++;
            }
        }

        int ruleOf(int a, int b) {
            if (a < 0 || a >= SORTS_MOST || b < 0 || b >= SORTS_MOST) {
                return NONE;
            }
            return rules[a * SORTS_MOST + b];
        }

        void setRule(int a, int b, int c) {
            if (sorts.has(a) && sorts.has(b)) {
                rules[a * SORTS_MOST + b] = c;
                ruleCount++;
            }
        }

        void addName(byte[] bytes, Node named, Node type, int sort, Node value) {
            if (names.isFull()) {
                return;
            }
            int k = names.size;
            types[k] = type;
            values[k] = value;
            typeSorts[k] = sort;
            names.add(bytes, named.nameAt, named.nameLength);
        }

        Node valueOf(int k) {
            return k >= 0 && k < names.size ? values[k] : null;
        }
    }

    /** A term, as a text has it or as a normal form. */
    private static final class Node {
        /** A name that has not been looked up yet. */
        static final int NAMED = 0;
        static final int SORT = 1;
        static final int CONSTANT = 2;
        static final int BOUND = 3;
        static final int LAMBDA = 4;
        static final int PRODUCT = 5;
        static final int LET = 6;
        static final int USE = 7;

        int kind;
        /**
         * The number of a sort or of a name of the context; of a binder and of what it binds, a
         * number that no binder around it has.
         */
        int id;
        /** The place of the name or sign that makes it what it is. */
        int at = NONE;
        /** The place of its first token, be that a bracket. */
        int start = NONE;
        int nameAt = 0;
        int nameLength = 0;
        Node first = null;
        Node second = null;
        /** What a USE applies its first to: never null there, never empty. */
        Node[] parts = null;
        /** The sorts a and b that a product keeps. */
        int sortA = NONE;
        int sortB = NONE;

        Node(int kind, int id) {
            this.kind = kind;
            this.id = id;
        }

        static Node named(int at, int length) {
            Node made = new Node(NAMED, 0);
            made.at = at;
            made.start = at;
            made.nameAt = at;
            made.nameLength = length;
            return made;
        }

        static Node binder(int kind, int id, Node first, Node second) {
            Node made = new Node(kind, id);
            made.first = first;
            made.second = second;
            return made;
        }

        static Node use(Node first, Node[] parts) {
            Node made = new Node(USE, 0);
            made.first = first;
            made.parts = parts;
            made.at = first.at;
            made.start = first.start;
            return made;
        }

        void keepSorts(int a, int b) {
            sortA = a;
            sortB = b;
        }
    }

    /** A statement of a text; which of its parts there are is told by its kind. */
    private static final class Statement {
        static final int SORT = 0;
        static final int AXIOM = 1;
        static final int RULE = 2;
        static final int CHECK = 3;
        static final int NORM = 4;
        static final int SAME = 5;
        static final int HEAD = 6;
        static final int ASSUME = 7;
        static final int DEFINE = 8;

        final int kind;
        final int at;
        final Node name;
        final Node first;
        final Node second;

        Statement(int kind, int at, Node name, Node first, Node second) {
            this.kind = kind;
            this.at = at;
            this.name = name;
            this.first = first;
            this.second = second;
        }
    }

    /**
     * One link of a row: of what is put for bound names, innermost first, or of what a term is
     * applied to, first one first.
     */
    private static final class Link {
        final int id;
        /** Null where a new name is put, which newName tells. */
        final Node term;
        /** What is put for the names of the term, where it was written. */
        final Link env;
        final int newName;
        final Link next;

        /** A term put for the name that id tells; of a part that a term is applied to, id is 0. */
        Link(int id, Node term, Link env, Link next) {
            this.id = id;
            this.term = term;
            this.env = env;
            this.newName = 0;
            this.next = next;
        }

        /** New names are told by their level, below 0: binders of a text have ids above 0. */
        Link(int id, int level, Link next) {
            this.id = id;
            this.term = null;
            this.env = null;
            this.newName = -1 - level;
            this.next = next;
        }

        static Link find(int id, Link row) {
            for (Link link = row; link != null; link = link.next) {
                if (link.id == id) {
                    return link;
                }
            }
            return null;
        }

        static int lengthOf(Link row) {
            int length = 0;
            for (Link link = row; link != null; link = link.next) {
                length++;
            }
            return length;
        }
    }

    /** What a term is when it has been brought to its head. */
    private static final class Head {
        final Node node;
        /** As of a node; of a bound name the new name that is put for it, if one is. */
        final int id;
        final Link env;
        final Link parts;

        Head(Node node, int id, Link env, Link parts) {
            this.node = node;
            this.id = id;
            this.env = env;
            this.parts = parts;
        }

        boolean isBinder() {
            return node.kind == Node.LAMBDA || node.kind == Node.PRODUCT;
        }

        Link envOfSecond(int level) {
            return new Link(node.id, level, env);
        }
    }

    /** The binders around a term that is judged, innermost first. */
    private static final class Scope {
        final Node binder;
        final Node type;
        final int sort;
        final Link lets;
        final Scope next;

        Scope(Node binder, Node type, int sort, Scope next) {
            this.binder = binder;
            this.type = type;
            this.sort = sort;
            this.next = next;
            Link outer = letsOf(next);
            boolean isLet = binder.kind == Node.LET;
            this.lets = isLet ? new Link(binder.id, binder.first, outer, outer) : outer;
        }

        /** For a name bound by lambda or product nothing is put: it has no link. */
        static Link letsOf(Scope scope) {
            return scope == null ? null : scope.lets;
        }
    }

    /** Reads a text to its statements, or stops at the first token that is at fault. */
    private static final class Reader {
        /** Each word in six places; its number is a statement's kind, or LET or IN. */
        private static final String WORDS = "sort  axiom rule  check norm  same  head  let   in    ";
        private static final int WORD_PLACES = 6;
        private static final int WORD_COUNT = 9;
        private static final int LET = 7;
        private static final int IN = 8;
        private static final int NAME = 256;
        private static final int LONG_NAME = 257;
        private static final int ASSIGN = 258;
        private static final int ARROW = 259;
        private static final int NO_TOKEN = 260;
        private static final int END = 261;
        private static final int TERMS_MOST = 40;

        private final byte[] bytes;
        private final Stop stop;
        /** Of each token: a word's number, a sign's byte, or one of the constants above. */
        private final int[] tokens;
        private final int[] places;
        private final int[] lengths;
        private int length = 0;
        private int next = 0;
        private int token = END;
        private int tokenAt = 0;
        private int tokenLength = 0;
        private int binders = 0;

        Reader(byte[] bytes, Stop stop) {
            this.bytes = bytes;
            this.stop = stop;
            // A text of single signs has a token for each byte, and the end behind them.
            tokens = new int[bytes.length + 1];
            places = new int[bytes.length + 1];
            lengths = new int[bytes.length + 1];
        }

        List<Statement> readText(int textLength) {
            length = Math.min(textLength, bytes.length);
            scan();
            next = 0;
            List<Statement> statements = new ArrayList<>();
            advance();
            for (int i = 0; i < length && token != END; i++) {
                statements.add(statement());
                expect(';');
            }
            return statements;
        }

        private Statement statement() {
            int at = tokenAt;
            int kind = token;
            if (kind == NAME) {
                return nameStatement(at);
            }
            if (kind < Statement.SORT || kind > Statement.HEAD) {
                refuse();
            }
            advance();
            switch (kind) {
                case Statement.SORT:
                    return new Statement(kind, at, takeName(), null, null);
                case Statement.AXIOM:
                    return axiom(at);
                case Statement.RULE:
                    return new Statement(kind, at, takeName(), takeName(), takeName());
                case Statement.SAME:
                    return sameStatement(at);
                default:
                    return termStatement(kind, at);
            }
        }

        private Statement nameStatement(int at) {
            Node named = takeName();
            if (token == ASSIGN) {
                advance();
                return new Statement(Statement.DEFINE, at, named, term(0), null);
            }
            expect(':');
            Node type = term(0);
            Node value = null;
            if (token == ASSIGN) {
                advance();
                value = term(0);
            }
            return new Statement(Statement.ASSUME, at, named, type, value);
        }

        private Statement axiom(int at) {
            Node one = takeName();
            expect(':');
            return new Statement(Statement.AXIOM, at, one, takeName(), null);
        }

        private Statement sameStatement(int at) {
            Node one = term(0);
            expect('=');
            return new Statement(Statement.SAME, at, null, one, term(0));
        }

        private Statement termStatement(int kind, int at) {
            Node term = term(0);
            Node type = null;
            if (kind == Statement.CHECK && token == ':') {
                advance();
                type = term(0);
            }
            return new Statement(kind, at, null, term, type);
        }

        /** depth: how many terms it is within. */
        private Node term(int depth) {
            if (depth >= TERMS_MOST && token != END) {
                stop.set(2, tokenAt);
                throw new IllegalStateException();
            }
            if (token == '\\' || token == '!' || token == LET) {
                return binder(depth);
            }
            Node left = use(depth);
            if (token != ARROW) {
                return left;
            }
            int at = tokenAt;
            advance();
            Node made = Node.binder(Node.PRODUCT, newId(), left, term(depth + 1));
            made.at = at;
            made.start = left.start;
            return made;
        }

        private Node binder(int depth) {
            int at = tokenAt;
            int sign = token;
            int kind = sign == LET ? Node.LET : sign == '!' ? Node.PRODUCT : Node.LAMBDA;
            advance();
            Node named = takeName();
            expect(sign == LET ? ASSIGN : ':');
            Node first = term(depth + 1);
            expect(sign == LET ? IN : '.');
            Node made = Node.binder(kind, newId(), first, term(depth + 1));
            made.at = at;
            made.start = at;
            made.nameAt = named.nameAt;
            made.nameLength = named.nameLength;
            return made;
        }

        private Node use(int depth) {
            Node front = atom(depth);
            if (!atomBegins()) {
                return front;
            }
            List<Node> row = new ArrayList<>();
            for (int i = 0; i < length && atomBegins(); i++) {
                row.add(atom(depth));
            }
            Node[] parts = new Node[row.size()];
            for (int i = 0; i < parts.length; i++) {
                parts[i] = row.get(i);
            }
            return Node.use(front, parts);
        }

        private boolean atomBegins() {
            return token == NAME || token == '(';
        }

        private Node atom(int depth) {
            if (token != '(') {
                return takeName();
            }
            int at = tokenAt;
            advance();
            Node inner = term(depth + 1);
            expect(')');
            inner.start = at;
            return inner;
        }

        private int newId() {
            binders++;
            return binders;
        }

        private Node takeName() {
            if (token != NAME) {
                refuse();
            }
            Node named = Node.named(tokenAt, tokenLength);
            advance();
            return named;
        }

        private void expect(int wanted) {
            if (token != wanted) {
                refuse();
            }
            advance();
        }

        private void refuse() {
            stop.set(token == LONG_NAME ? 2 : 1, tokenAt);
            throw new IllegalStateException();
        }

        private void advance() {
            if (next >= tokens.length) {
                return;
            }
            token = tokens[next];
            tokenAt = places[next];
            tokenLength = lengths[next];
            next++;
        }

        /** To the end, or to the first that is no token: no text goes on behind that one. */
        private void scan() {
            int at = 0;
            for (int i = 0; i < tokens.length; i++) {
                at = behindBlanks(at);
                tokenAt = at;
                tokenLength = 1;
                if (at >= length) {
                    token = END;
                } else {
                    token = isLetter(bytes[at]) ? nameToken() : signToken(bytes[at]);
                }
                tokens[i] = token;
                places[i] = at;
                lengths[i] = tokenLength;
                if (token == END || token == NO_TOKEN) {
                    return;
                }
                at += tokenLength;
            }
        }

        /** An open { is left where it is: it is no token. */
        private int behindBlanks(int from) {
            int at = from;
            for (; at < length; at++) {
                int sign = bytes[at];
                if (sign == '{') {
                    int close = closeOf(at);
                    if (close == NONE) {
                        return at;
                    }
                    at = close;
                } else if (sign != 10 && sign != 32) {
                    return at;
                }
            }
            return at;
        }

        private int closeOf(int open) {
            for (int i = open + 1; i < length; i++) {
                if (bytes[i] == '}') {
                    return i;
                }
            }
            return NONE;
        }

        private int nameToken() {
            int end = tokenAt + 1;
            while (end < length && isNameSign(bytes[end])) {
                end++;
            }
            tokenLength = end - tokenAt;
            int word = wordNumber();
            if (word != NONE) {
                return word;
            }
            return tokenLength > Names.SIGNS_MOST ? LONG_NAME : NAME;
        }

        private int wordNumber() {
            if (tokenLength >= WORD_PLACES) {
                return NONE;
            }
            for (int word = 0; word < WORD_COUNT; word++) {
                if (isWord(word * WORD_PLACES)) {
                    return word;
                }
            }
            return NONE;
        }

        private boolean isWord(int from) {
            for (int i = 0; i < tokenLength; i++) {
                if (WORDS.charAt(from + i) != bytes[tokenAt + i]) {
                    return false;
                }
            }
            return WORDS.charAt(from + tokenLength) == ' ';
        }

        private int signToken(int sign) {
            int follower = tokenAt + 1 < length ? bytes[tokenAt + 1] : NONE;
            if (sign == ':' && follower == '=') {
                tokenLength = 2;
                return ASSIGN;
            }
            if (sign == '-' && follower == '>') {
                tokenLength = 2;
                return ARROW;
            }
            switch (sign) {
                case '\\':
                case '!':
                case ':':
                case '.':
                case ';':
                case '=':
                case '(':
                case ')':
                case ',':
                    return sign;
                default:
                    return NO_TOKEN;
            }
        }

        private static boolean isLetter(int sign) {
            return sign >= 'a' && sign <= 'z' || sign >= 'A' && sign <= 'Z';
        }

        private static boolean isNameSign(int sign) {
            return isLetter(sign) || sign >= '0' && sign <= '9' || sign == '\'';
        }
    }

    /** Brings terms to their heads, compares, tells and normalizes them, and counts the work. */
    private static final class Machine {
        static final int B = 1;
        static final int D = 2;
        static final int Z = 3;
        static final int P = 4;
        static final int V = 5;
        static final int LOOKS = 6;
        private static final int LIFE_MOST = 60000;
        private static final int LOOKS_WITHIN = 100;
        private static final int OUT_KEPT = 3000;
        /** Above all turns that any limit leaves: each but the last costs a step. */
        private static final int TURNS = 1000000;
        private static final int BARE = 0;
        private static final int ROUND_BINDERS = 1;
        private static final int ROUND_ALL = 2;

        private final Book book;
        private final Stop stop;
        /** As count() numbers them: all work first. */
        final int[] done = new int[7];
        int lifeWork = 0;
        int workMost = 5000;
        private int beganAt = 0;
        final byte[] outBytes = new byte[OUT_KEPT];
        int outSize = 0;

        Machine(Book book, Stop stop) {
            this.book = book;
            this.stop = stop;
        }

        void begin(int place) {
            for (int i = 0; i < done.length; i++) {
                done[i] = 0;
            }
            beganAt = place;
        }

        boolean areSame(Node one, Node other) {
            return compare(one, null, other, null, 0, 0);
        }

        void tellWhole(Node term) {
            tell(term, null, 0, 0, BARE);
        }

        Node normalForm(Node term, Link env) {
            return normalize(term, env, 0, 0);
        }

        void tellHead(Node term) {
            Head head = head(term, null);
            putFront(head);
            put(' ');
            putNumber(head.isBinder() ? 0 : Link.lengthOf(head.parts));
        }

        /** What is over THE LIMIT or over a life's work is not done, nor counted. */
        private void spend(int kind) {
            boolean isOverLimit = done[0] >= workMost;
            if (isOverLimit || lifeWork >= LIFE_MOST) {
                stop.fault = isOverLimit ? 12 : 14;
                stop.place = beganAt;
                throw new IllegalStateException();
            }
            done[0]++;
            done[kind]++;
            lifeWork++;
        }

        /** A deep look is counted, where there is work left for it: it is one that was made. */
        private void look(int within) {
            boolean isDeep = within >= LOOKS_WITHIN;
            if (!isDeep || done[0] < workMost && lifeWork < LIFE_MOST) {
                spend(LOOKS);
            }
            if (isDeep) {
                stop.set(13, beganAt);
                throw new IllegalStateException();
            }
        }

        private Head head(Node term, Link env) {
            Node node = term;
            Link puts = env;
            Link parts = null;
            for (int turn = 0; turn < TURNS; turn++) {
                if (node.kind == Node.USE) {
                    for (int i = node.parts.length - 1; i >= 0; i--) {
                        spend(P);
                        parts = new Link(0, node.parts[i], puts, parts);
                    }
                    node = node.first;
                } else if (node.kind == Node.LET) {
                    spend(Z);
                    puts = new Link(node.id, node.first, puts, puts);
                    node = node.second;
                } else if (node.kind == Node.LAMBDA && parts != null) {
                    spend(B);
                    puts = new Link(node.id, parts.term, parts.env, puts);
                    parts = parts.next;
                    node = node.second;
                } else if (node.kind == Node.CONSTANT && book.valueOf(node.id) != null) {
                    spend(D);
                    node = book.valueOf(node.id);
                    puts = null;
                } else if (node.kind == Node.BOUND) {
                    Link found = Link.find(node.id, puts);
                    if (found == null || found.term == null) {
                        int id = found == null ? node.id : found.newName;
                        return new Head(node, id, puts, parts);
                    }
                    spend(V);
                    node = found.term;
                    puts = found.env;
                } else {
                    return new Head(node, node.id, puts, parts);
                }
            }
            return new Head(node, node.id, puts, parts);
        }

        /** level: within how many second terms it stands; depth: within how many looks. */
        private boolean compare(Node one, Link oneEnv, Node other, Link otherEnv, int level, int depth) {
            look(depth);
            Head left = head(one, oneEnv);
            Head right = head(other, otherEnv);
            if (left.node.kind != right.node.kind) {
                return false;
            }
            if (left.isBinder()) {
                return compare(left.node.first, left.env, right.node.first, right.env, level, depth + 1)
                    && compare(left.node.second, left.envOfSecond(level),
                        right.node.second, right.envOfSecond(level), level + 1, depth + 1);
            }
            if (left.id != right.id || Link.lengthOf(left.parts) != Link.lengthOf(right.parts)) {
                return false;
            }
            Link match = right.parts;
            for (Link part = left.parts; part != null && match != null; part = part.next) {
                if (!compare(part.term, part.env, match.term, match.env, level, depth + 1)) {
                    return false;
                }
                match = match.next;
            }
            return true;
        }

        private void tell(Node term, Link env, int level, int depth, int brackets) {
            look(depth);
            Head head = head(term, env);
            boolean isBinder = head.isBinder();
            boolean isRound = isBinder ? brackets != BARE : brackets == ROUND_ALL && head.parts != null;
            if (isRound) {
                put('(');
            }
            putFront(head);
            if (isBinder) {
                put('_');
                putNumber(level);
                put(':');
                tell(head.node.first, head.env, level, depth + 1, ROUND_BINDERS);
                put('.');
                tell(head.node.second, head.envOfSecond(level), level + 1, depth + 1, BARE);
            } else {
                for (Link part = head.parts; part != null; part = part.next) {
                    put(' ');
                    tell(part.term, part.env, level, depth + 1, ROUND_ALL);
                }
            }
            if (isRound) {
                put(')');
            }
        }

        private Node normalize(Node term, Link env, int level, int depth) {
            look(depth);
            Head head = head(term, env);
            Node node = head.node;
            if (head.isBinder()) {
                Link inner = head.envOfSecond(level);
                Node first = normalize(node.first, head.env, level, depth + 1);
                Node second = normalize(node.second, inner, level + 1, depth + 1);
                Node made = Node.binder(node.kind, inner.newName, first, second);
                made.keepSorts(node.sortA, node.sortB);
                return made;
            }
            Node front = new Node(node.kind, head.id);
            if (head.parts == null) {
                return front;
            }
            Node[] parts = new Node[Link.lengthOf(head.parts)];
            Link part = head.parts;
            for (int i = 0; i < parts.length && part != null; i++) {
                parts[i] = normalize(part.term, part.env, level, depth + 1);
                part = part.next;
            }
            return Node.use(front, parts);
        }

        private void putFront(Head head) {
            switch (head.node.kind) {
                case Node.LAMBDA:
                    put('\\');
                    break;
                case Node.PRODUCT:
                    put('!');
                    break;
                case Node.SORT:
                    putSigns(book.sorts, head.id);
                    break;
                case Node.CONSTANT:
                    putSigns(book.names, head.id);
                    break;
                default:
                    put('_');
                    putNumber(-1 - head.id);
                    break;
            }
        }

        private void putSigns(Names names, int k) {
            int length = names.has(k) ? names.lengths[k] : 0;
            for (int i = 0; i < length; i++) {
                put(names.signOf(k, i));
            }
        }

        private void putNumber(int number) {
            int unit = 1;
            for (int digits = 1; digits < 9 && number / unit >= 10; digits++) {
                unit *= 10;
            }
            for (; unit > 0; unit /= 10) {
                put('0' + number / unit % 10);
            }
        }

        void putAnswer(boolean yes) {
            String answer = yes ? "yes" : "no";
            for (int i = 0; i < answer.length(); i++) {
                put(answer.charAt(i));
            }
            put(NEW_LINE);
        }

        void put(int sign) {
            if (outSize < outBytes.length) {
                outBytes[outSize] = (byte) sign;
            }
            outSize++;
        }
    }

    /** Judges terms: finds their types, or stops at their first fault. */
    private static final class Judge {
        private final byte[] bytes;
        private final Book book;
        private final Machine machine;
        private final Stop stop;
        /** The sort of the type that was found last, NONE without. */
        int sortOfType = NONE;

        Judge(byte[] bytes, Book book, Machine machine, Stop stop) {
            this.bytes = bytes;
            this.book = book;
            this.machine = machine;
            this.stop = stop;
        }

        Node typeOf(Node term) {
            return judge(term, null);
        }

        int sortAsType(Node term) {
            return neededSort(judge(term, null), term);
        }

        /** The reader lets no term stand within 40 others, which keeps this from going deep. */
        private Node judge(Node term, Scope scope) {
            if (term.first == null) {
                return judgeName(term, scope);
            }
            Node found = judge(term.first, scope);
            if (term.kind == Node.LET) {
                return judge(term.second, new Scope(term, found, sortOfType, scope));
            }
            if (term.kind == Node.USE) {
                for (int i = 0; i < term.parts.length; i++) {
                    needProduct(found, term.first);
                    Node part = term.parts[i];
                    Node type = judge(part, scope);
                    if (!machine.areSame(found.first, type)) {
                        stop.set(11, part.start);
                        throw new IllegalStateException();
                    }
                    sortOfType = found.sortB;
                    Link put = new Link(found.id, part, Scope.letsOf(scope), null);
                    found = machine.normalForm(found.second, put);
                }
                return found;
            }
            int a = neededSort(found, term.first);
            Node domain = machine.normalForm(term.first, Scope.letsOf(scope));
            Node range = judge(term.second, new Scope(term, domain, a, scope));
            if (term.kind == Node.PRODUCT) {
                return typeOfProduct(term, a, neededSort(range, term.second));
            }
            return typeOfLambda(term, domain, a, range);
        }

        private Node judgeName(Node term, Scope scope) {
            for (Scope around = scope; around != null; around = around.next) {
                if (isNameOf(around.binder, term)) {
                    resolve(term, Node.BOUND, around.binder.id, around.sort);
                    return around.type;
                }
            }
            int k = book.names.find(bytes, term.nameAt, term.nameLength);
            if (k != NONE) {
                resolve(term, Node.CONSTANT, k, book.typeSorts[k]);
                return book.types[k];
            }
            int s = book.sorts.find(bytes, term.nameAt, term.nameLength);
            if (s == NONE) {
                stop.set(3, term.at);
                throw new IllegalStateException();
            }
            int axiom = book.axiomOf(s);
            if (axiom == NONE) {
                stop.set(7, term.at);
                throw new IllegalStateException();
            }
            resolve(term, Node.SORT, s, book.axiomOf(axiom));
            return new Node(Node.SORT, axiom);
        }

        private boolean isNameOf(Node binder, Node term) {
            return binder.nameLength == term.nameLength
                && Names.agree(bytes, binder.nameAt, bytes, term.nameAt, term.nameLength);
        }

        private void resolve(Node term, int kind, int id, int sort) {
            term.kind = kind;
            term.id = id;
            sortOfType = sort;
        }

        private int neededSort(Node type, Node term) {
            if (type.kind != Node.SORT) {
                stop.set(8, term.start);
                throw new IllegalStateException();
            }
            return type.id;
        }

        private void needProduct(Node type, Node term) {
            if (type.kind != Node.PRODUCT) {
                stop.set(10, term.start);
                throw new IllegalStateException();
            }
        }

        private Node typeOfProduct(Node term, int a, int b) {
            int c = neededRule(a, b, term);
            term.keepSorts(a, b);
            sortOfType = book.axiomOf(c);
            return new Node(Node.SORT, c);
        }

        private Node typeOfLambda(Node term, Node domain, int a, Node range) {
            int b = sortOfType;
            if (b == NONE) {
                stop.set(7, term.at);
                throw new IllegalStateException();
            }
            sortOfType = neededRule(a, b, term);
            Node type = Node.binder(Node.PRODUCT, term.id, domain, range);
            type.keepSorts(a, b);
            return type;
        }

        private int neededRule(int a, int b, Node term) {
            int c = book.ruleOf(a, b);
            if (c == NONE) {
                stop.set(9, term.at);
                throw new IllegalStateException();
            }
            return c;
        }
    }
}
