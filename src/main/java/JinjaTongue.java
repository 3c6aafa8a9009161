import java.util.ArrayList;
import java.util.Arrays;

/**
 * A small language of classes: a text is read, judged, compiled, and run with fuel in a heap of so many cells.
 *
 * The way of a text: Text splits it into tokens, Parser makes Nodes and Decls of them, Program judges the names,
 * Bodies judges the methods and writes Code, and Machine runs that, with its objects in a Heap.
 */
public final class JinjaTongue {
    public static final int NONE = -1;

    private static final int TAPE_BYTES = 5000;
    private static final int FED_BYTES = 20;
    private static final int MOST_FUEL = 20000;
    private static final int LEAST_CELLS = 10;
    private static final int MOST_CELLS = 3000;

    private final byte[] tape;
    private int tapeLength;
    private final Text text;
    private final Code code;
    private final Parser parser;
    private final Bodies bodies;
    private final Machine machine;
    /** Null as long as there is no program. */
    private Program program;

    public JinjaTongue() {
        tape = new byte[TAPE_BYTES];
        text = new Text();
        code = new Code();
        parser = new Parser(text);
        bodies = new Bodies(text, code);
        machine = new Machine(code);
    }

    // ---- the text and its rules

    public int feed(int a, int b, int c, int d, int e) {
        if (tapeLength + FED_BYTES > TAPE_BYTES) {
            return NONE;
        }
        append(a);
        append(b);
        append(c);
        append(d);
        append(e);
        return tapeLength;
    }

    private void append(int bytes) {
        for (int shift = 24; shift >= 0; shift -= 8) {
            if (tapeLength < tape.length) {
                tape[tapeLength] = (byte) (bytes >>> shift);
                tapeLength++;
            }
        }
    }

    public int back(int n) {
        if (n < 0 || n > tapeLength) {
            return NONE;
        }
        tapeLength -= n;
        return tapeLength;
    }

    public int read() {
        text.split(tape, tapeLength);
        tapeLength = 0;
        machine.clear();
        program = null;
        Program next = new Program(text);
        try {
            parser.parse(next);
            next.judgeNames();
            bodies.judge(next);
        } catch (IllegalStateException fault) {
            return text.fault;
        }
        program = next;
        return 0;
    }

    /** The class or interface k; null if there is none such. */
    private Decl declared(int k) {
        return program == null ? null : program.decl(k);
    }

    public int type(int k, int what) {
        Decl decl = declared(k);
        if (decl == null) {
            return NONE;
        }
        switch (what) {
            case 0:
                return decl.parent == null ? NONE : decl.parent.number;
            case 1:
                return decl.layout.size();
            case 2:
                return decl.known.size();
            case 3:
                return decl.isInterface ? 1 : 0;
            case 4:
                return Long.bitCount(decl.above);
            case 5:
                return decl.isInterface ? NONE : decl.cells();
            default:
                return NONE;
        }
    }

    public int above(int k, int lower) {
        if (declared(k) == null || declared(lower) == null) {
            return NONE;
        }
        return k == lower || program.isAbove(k, lower) ? 1 : 0;
    }

    public int letter(int k, int i) {
        Decl decl = declared(k);
        return decl == null ? NONE : text.letterOf(decl.name, i);
    }

    public int called(int k, int m) {
        Decl decl = declared(k);
        Method method = program == null ? null : program.method(m);
        if (decl == null || decl.isInterface || method == null) {
            return NONE;
        }
        Method nearest = decl.nearest(method.name);
        return nearest == null ? NONE : nearest.number;
    }

    // ---- runs

    public int input(int v) {
        return machine.takeInput(v);
    }

    public void forget() {
        machine.inputs = 0;
    }

    public int run(int fuel, int cells) throws IllegalArgumentException, IllegalStateException {
        if (fuel < 0 || fuel > MOST_FUEL || cells < LEAST_CELLS || cells > MOST_CELLS) {
            throw new IllegalArgumentException("fuel is 0 .. 20000, cells are 10 .. 3000");
        }
        if (program == null) {
            throw new IllegalStateException("there is no program");
        }
        machine.start(program, fuel, cells);
        return machine.work();
    }

    public int result() {
        return machine.result;
    }

    public int output(int i) {
        return machine.printed(i);
    }

    public int thrown(int what) {
        return machine.uncaught(what);
    }

    public int count(int what) {
        switch (what) {
            case 0:
                return tapeLength;
            case 1:
                return machine.inputs;
            case 2:
                return program == null ? 0 : text.size;
            case 3:
                return program == null ? 0 : program.size;
            case 4:
                return program == null ? 0 : program.methods.size();
            default:
                return machine.told(what);
        }
    }

    public int refusals() {
        return machine.refusals;
    }

    /** A text as tokens and names. The tokens are numbered from 0 on; behind the last one END goes on for ever. */
    static final class Text {
        // The words' kinds are their numbers as names, in the order of their spellings.
        static final int AS = 0, BOOLEAN = 1, BREAK = 2, CATCH = 3, CLASS = 4, CONTINUE = 5, ELSE = 6, EXTENDS = 7;
        static final int FALSE = 8, FINALLY = 9, FOR = 10, IF = 11, IMPLEMENTS = 12, INT = 13, INTERFACE = 14;
        static final int IS = 15, LENGTH = 16, NEW = 17, NULL = 18, PRINT = 19, READ = 20, RETURN = 21, SUPER = 22;
        static final int THIS = 23, THROW = 24, TRUE = 25, TRY = 26, VOID = 27, WHILE = 28;
        private static final int WORDS = 29;
        // Names that the language itself has: those of the seven classes, and where a run begins.
        static final int OBJECT_NAME = 29, MAIN_CLASS = 36, MAIN_METHOD = 37;
        private static final int BUILT_IN = 38;
        private static final String FIRST_WORDS =
            "as boolean break catch class continue else extends false finally for if implements int interface is ";
        private static final String LAST_WORDS =
            "length new null print read return super this throw true try void while ";
        private static final String OWN_NAMES = "Object Null Cast Zero Index Store Size Main main ";
        // The signs' kinds go on from SIGNS in the order of ONES, then of TWOS, then the one of three.
        private static final int SIGNS = 32;
        private static final String ONES = "{}()[];,.?:=+-*/%&|^~!<>";
        private static final String TWOS = "<=>===!=&&||<<>>";
        static final int OPEN_BRACE = 32, CLOSE_BRACE = 33, OPEN = 34, CLOSE = 35, OPEN_INDEX = 36, CLOSE_INDEX = 37;
        static final int SEMICOLON = 38, COMMA = 39, DOT = 40, QUESTION = 41, COLON = 42, ASSIGN = 43, PLUS = 44;
        static final int MINUS = 45, TIMES = 46, DIVIDE = 47, REMAINDER = 48, AND = 49, OR = 50, XOR = 51, INVERT = 52;
        static final int NOT = 53, LESS = 54, MORE = 55, LESS_SAME = 56, MORE_SAME = 57, SAME = 58, OTHER = 59;
        static final int BOTH = 60, EITHER = 61, LEFT = 62, RIGHT = 63, FAR_RIGHT = 64;
        static final int NAME = 65, NUMBER = 66, END = 67, WRONG = 68;
        // Why a NAME stands where a type does.
        static final int NO_TYPE = 0, ANY_TYPE = 1, NEW_OBJECT = 2, CAUGHT = 3;
        // The faults of the text.
        static final int SYNTAX = 1, LIMIT = 2;

        private static final int LONGEST_NAME = 16;
        private static final int MOST_DIGITS = 10;
        private static final long GREATEST = 2147483647;
        private static final int MOST_NAMES = TAPE_BYTES / 2 + BUILT_IN + 2;
        private static final int BUCKETS = 256;

        /** The spellings of the built-in names, and behind them the text, so that a name is a stretch of this row. */
        private final byte[] bytes;
        private final int spelled;
        private int length;
        private final int[] kinds;
        private final int[] places;
        /** A NUMBER's number, a NAME's name. */
        private final int[] values;
        private final byte[] roles;
        /** The types that begin at tokens, as Program has them. */
        private final int[] types;
        int size;
        private final int[] nameStarts;
        private final int[] nameLengths;
        private final int[] nameNexts;
        private final int[] buckets;
        private int names;
        /** What read answers if the text is at fault. */
        int fault;

        Text() {
            String first = FIRST_WORDS;
            String last = LAST_WORDS;
            String own = OWN_NAMES;
            spelled = first.length() + last.length() + own.length();
            bytes = new byte[spelled + TAPE_BYTES];
            spell(first, 0);
            spell(last, first.length());
            spell(own, first.length() + last.length());
            kinds = new int[TAPE_BYTES];
            places = new int[TAPE_BYTES];
            values = new int[TAPE_BYTES];
            roles = new byte[TAPE_BYTES];
            types = new int[TAPE_BYTES];
            nameStarts = new int[MOST_NAMES];
            nameLengths = new int[MOST_NAMES];
            nameNexts = new int[MOST_NAMES];
            buckets = new int[BUCKETS];
        }

        private void spell(String words, int start) {
            for (int i = 0; i < words.length(); i++) {
                if (start + i < bytes.length) {
                    bytes[start + i] = (byte) words.charAt(i);
                }
            }
        }

        void split(byte[] tape, int tapeLength) {
            length = Math.max(0, Math.min(tapeLength, Math.min(tape.length, TAPE_BYTES)));
            System.arraycopy(tape, 0, bytes, spelled, length);
            size = 0;
            fault = 0;
            learnBuiltIn();
            int at = pastBlanks(0);
            for (int n = 0; n < length && at < length; n++) {
                int end = addToken(at);
                // Behind a wrong token nothing can be read: the parser stops there at the latest.
                at = end > at ? pastBlanks(end) : length;
            }
        }

        private void learnBuiltIn() {
            names = 0;
            Arrays.fill(buckets, NONE);
            int start = 0;
            for (int i = 0; i < spelled; i++) {
                if (bytes[i] == ' ') {
                    nameOf(start, i - start);
                    start = i + 1;
                }
            }
        }

        /** The byte of the text; NONE outside. */
        private int byteAt(int i) {
            return i >= 0 && i < length ? bytes[spelled + i] & 255 : NONE;
        }

        private int pastBlanks(int start) {
            boolean inNote = false;
            for (int i = start; i < length; i++) {
                int c = byteAt(i);
                if (inNote) {
                    inNote = c != 10;
                } else if (c == '/' && byteAt(i + 1) == '/') {
                    inNote = true;
                } else if (c != 9 && c != 10 && c != 13 && c != 32) {
                    return i;
                }
            }
            return length;
        }

        private static boolean isDigit(int c) {
            return c >= '0' && c <= '9';
        }

        private static boolean isLetter(int c) {
            return c >= 'A' && c <= 'Z' || c >= 'a' && c <= 'z';
        }

        /** Adds the token that begins there: where it ends; its own place if there is none. */
        private int addToken(int at) {
            int end = at;
            while (end < length && (isDigit(byteAt(end)) || isLetter(byteAt(end)))) {
                end++;
            }
            if (end == at) {
                return addSign(at);
            }
            if (isDigit(byteAt(at))) {
                return addNumber(at, end);
            }
            if (end - at > LONGEST_NAME) {
                return add(WRONG, at, 0, at);
            }
            int name = nameOf(spelled + at, end - at);
            return add(name < WORDS ? name : NAME, at, name, end);
        }

        private int addNumber(int at, int end) {
            long number = 0;
            boolean right = end - at <= MOST_DIGITS;
            for (int i = at; i < end && right; i++) {
                right = isDigit(byteAt(i));
                number = number * 10 + byteAt(i) - '0';
            }
            if (!right || number > GREATEST) {
                return add(WRONG, at, 0, at);
            }
            return add(NUMBER, at, (int) number, end);
        }

        private int addSign(int at) {
            int first = byteAt(at);
            int second = byteAt(at + 1);
            if (first == '>' && second == '>' && byteAt(at + 2) == '>') {
                return add(FAR_RIGHT, at, 0, at + 3);
            }
            for (int i = 0; i + 1 < TWOS.length(); i += 2) {
                if (TWOS.charAt(i) == first && TWOS.charAt(i + 1) == second) {
                    return add(SIGNS + ONES.length() + i / 2, at, 0, at + 2);
                }
            }
            for (int i = 0; i < ONES.length(); i++) {
                if (ONES.charAt(i) == first) {
                    return add(SIGNS + i, at, 0, at + 1);
                }
            }
            return add(WRONG, at, 0, at);
        }

        private int add(int kind, int place, int value, int end) {
            if (size < kinds.length) {
                kinds[size] = kind;
                places[size] = place;
                values[size] = value;
                roles[size] = NO_TYPE;
                types[size] = Program.VOID;
                size++;
            }
            return end;
        }

        /** The number of the name that stands in bytes there; a new one if it was not met before. */
        private int nameOf(int start, int nameLength) {
            int hash = 0;
            for (int i = start; i < start + nameLength; i++) {
                hash = hash * 31 + bytes[i];
            }
            int bucket = hash & BUCKETS - 1;
            int name = buckets[bucket];
            for (int n = 0; n < names && name >= 0; n++) {
                if (nameLengths[name] == nameLength && isSpelledAlike(nameStarts[name], start, nameLength)) {
                    return name;
                }
                name = nameNexts[name];
            }
            if (names >= MOST_NAMES) {
                return NONE;
            }
            nameStarts[names] = start;
            nameLengths[names] = nameLength;
            nameNexts[names] = buckets[bucket];
            buckets[bucket] = names;
            names++;
            return names - 1;
        }

        private boolean isSpelledAlike(int one, int other, int nameLength) {
            for (int i = 0; i < nameLength; i++) {
                if (bytes[one + i] != bytes[other + i]) {
                    return false;
                }
            }
            return true;
        }

        int letterOf(int name, int i) {
            boolean there = name >= 0 && name < names && i >= 0 && i < nameLengths[name];
            return there ? bytes[nameStarts[name] + i] & 255 : NONE;
        }

        int kindAt(int token) {
            return token >= 0 && token < size ? kinds[token] : END;
        }

        /** The token's first byte; the length of the text at the end. */
        int placeAt(int token) {
            return token >= 0 && token < size ? places[token] : length;
        }

        int valueAt(int token) {
            return token >= 0 && token < size ? values[token] : NONE;
        }

        int roleAt(int token) {
            return token >= 0 && token < size ? roles[token] : NO_TYPE;
        }

        void giveRole(int token, int role) {
            if (token >= 0 && token < size) {
                roles[token] = (byte) role;
            }
        }

        int typeAt(int token) {
            return token >= 0 && token < size ? types[token] : Program.VOID;
        }

        void giveType(int token, int type) {
            if (token >= 0 && token < size) {
                types[token] = type;
            }
        }

        /** Ends the reading of the text. */
        void fail(int number, int token) {
            fault = number + 16 * (token >= 0 && token < size ? places[token] : length);
            throw new IllegalStateException("the text is at fault");
        }
    }

    /** A part of the text: an E, a STATEMENT, a field, a PARAMETER. */
    static final class Node {
        // OPERANDS and what stands behind them.
        static final int NUMBER = 0, TRUE = 1, FALSE = 2, NULL = 3, THIS = 4, NAME = 5, READ = 6, GROUP = 7;
        static final int OBJECT = 8, ARRAY = 9, CALL = 10, SUPER = 11, FIELD = 12, LENGTH = 13, INDEX = 14;
        // PREFIX: - ~ ahead; SIGN: a sign between two, but for SHORT: && ||; CHECK: is, as; CHOICE: ? :
        static final int PREFIX = 15, NOT = 16, SIGN = 17, SHORT = 18, CHECK = 19, CHOICE = 20;
        // STATEMENTS; DO: a CALL.
        static final int BLOCK = 21, LOCAL = 22, ASSIGN = 23, DO = 24, IF = 25, WHILE = 26, FOR = 27, RETURN = 28;
        static final int BREAK = 29, CONTINUE = 30, THROW = 31, TRY = 32, PRINT = 33, EMPTY = 34, CATCH = 35;
        // A field or a PARAMETER.
        static final int VARIABLE = 36;

        final int kind;
        /** The token that tells which one it is: its NAME, its sign, its word. */
        final int token;
        /** Its first token; of a variable that of its TYPE. */
        final int first;
        /** Of a field or a PARAMETER. */
        int name;
        /** The closing parenthesis of a call, the last brace of a BLOCK. */
        int end;
        /** Of a field, and of what means one, its number within the object. */
        int slot;
        // Parts, in the order of the text; a for has FIRST, E, NEXT, STATEMENT, a while the second and the last.
        Node a;
        Node b;
        Node c;
        Node d;
        /** The next one of a list. */
        Node next;

        Node(int kind, int token, int first) {
            this.kind = kind;
            this.token = token;
            this.first = first;
        }

        boolean isPlace() {
            return kind == NAME || kind == FIELD || kind == INDEX;
        }

        boolean isCall() {
            return kind == CALL || kind == SUPER;
        }
    }

    /** A method, of a class or told by an interface. */
    static final class Method {
        final Decl owner;
        final int name;
        /** Its NAME's token. */
        final int token;
        /** The token of its result's TYPE, or of void. */
        final int first;
        final ArrayList<Node> parameters;
        /** Null if an interface tells it. */
        Node body;
        /** Among those with BLOCKS; NONE without one. */
        int number;
        /** The type of its result. */
        int result;
        // Its code: where it begins, how many slots its variables need, its regions.
        int entry;
        int slots;
        int firstRegion;
        int regionsEnd;

        Method(Decl owner, int name, int token, int first) {
            this.owner = owner;
            this.name = name;
            this.token = token;
            this.first = first;
            parameters = new ArrayList<Node>();
            number = NONE;
        }
    }

    /** A class or an interface. */
    static final class Decl {
        final int number;
        final int name;
        /** Its NAME's token; NONE of those built in. */
        final int token;
        final boolean isInterface;
        /** The token of the class that it extends; NONE if it names none. */
        int extended;
        /** The first token of the interfaces that it names (every second one from there on), and how many they are. */
        int listed;
        int listSize;
        final ArrayList<Node> fields;
        final ArrayList<Method> methods;
        /** The class that it extends; null of Object and of interfaces. */
        Decl parent;
        /** A bit for each one above it. */
        long above;
        /** The fields of its objects, from above downwards. */
        final ArrayList<Node> layout;
        /** The methods that it has, its own and from above, of one NAME one. */
        final ArrayList<Method> known;

        Decl(int number, int name, int token, boolean isInterface) {
            this.number = number;
            this.name = name;
            this.token = token;
            this.isInterface = isInterface;
            extended = NONE;
            fields = new ArrayList<Node>();
            methods = new ArrayList<Method>();
            layout = new ArrayList<Node>();
            known = new ArrayList<Method>();
        }

        /** The CELLS of an object. */
        int cells() {
            return 1 + layout.size();
        }

        /** The field of that name that its objects have, or null. */
        Node fieldOf(int wanted) {
            for (int i = 0; i < layout.size(); i++) {
                if (layout.get(i).name == wanted) {
                    return layout.get(i);
                }
            }
            return null;
        }

        /** The method of that name that it has, or null. */
        Method methodOf(int wanted) {
            for (int i = 0; i < known.size(); i++) {
                if (known.get(i).name == wanted) {
                    return known.get(i);
                }
            }
            return null;
        }

        /** Its own method of that name, or null. */
        Method own(int wanted) {
            for (int i = 0; i < methods.size(); i++) {
                if (methods.get(i).name == wanted) {
                    return methods.get(i);
                }
            }
            return null;
        }

        /** The method that is called by that name of an object of this class, or null. */
        Method nearest(int wanted) {
            for (Decl decl = this; decl != null; decl = decl.parent) {
                Method method = decl.own(wanted);
                if (method != null) {
                    return method;
                }
            }
            return null;
        }
    }

    /** The classes, interfaces and methods of a text, their types, and the judgement of their names. */
    static final class Program {
        // Types are ints: a class or interface is its number, an array is ARRAY and the type of its elements.
        static final int OBJECT = 0, INT = 60, BOOLEAN = 61, NULL = 62, VOID = 63, ARRAY = 64;
        static final int MOST_DECLS = 30;
        static final int BUILT_IN = 7;
        private static final int TWICE = 3, UNKNOWN = 4, KIND = 5, RING = 6, SIGNATURE = 7, MISSING = 8, NO_MAIN = 9;
        private static final int CLEAN = 2147483647;

        private final Text text;
        private final Decl[] decls;
        int size;
        /** Those with BLOCKS. */
        final ArrayList<Method> methods;
        /** Of the faults of a round the one of the lowest place, of one place the least: the least as read tells it. */
        private int least;

        Program(Text text) {
            this.text = text;
            decls = new Decl[BUILT_IN + MOST_DECLS];
            methods = new ArrayList<Method>();
            for (int k = 0; k < BUILT_IN; k++) {
                decls[k] = new Decl(k, Text.OBJECT_NAME + k, NONE, false);
            }
            size = BUILT_IN;
            least = CLEAN;
        }

        boolean isFull() {
            return size >= decls.length;
        }

        Decl addDecl(int token, boolean isInterface) {
            Decl decl = new Decl(size, text.valueAt(token), token, isInterface);
            if (size < decls.length) {
                decls[size] = decl;
                size++;
            }
            return decl;
        }

        Decl decl(int k) {
            return k >= 0 && k < size ? decls[k] : null;
        }

        Method method(int m) {
            return m >= 0 && m < methods.size() ? methods.get(m) : null;
        }

        /** The first class or interface of that name; NONE if there is none. */
        int find(int name) {
            for (int k = 0; k < size; k++) {
                if (decls[k].name == name) {
                    return k;
                }
            }
            return NONE;
        }

        // ---- types

        static boolean isReference(int type) {
            return type != INT && type != BOOLEAN && type != VOID;
        }

        boolean isAbove(int k, int lower) {
            return k >= 0 && k < size && lower >= 0 && lower < size && (decls[lower].above >>> k & 1) == 1;
        }

        boolean fits(int type, int wanted) {
            if (type == VOID || wanted == VOID) {
                return false;
            }
            if (type == wanted) {
                return true;
            }
            if (type == NULL || wanted == OBJECT) {
                return isReference(type) && isReference(wanted);
            }
            if (type >= ARRAY && wanted >= ARRAY) {
                return isAbove(wanted - ARRAY, type - ARRAY);
            }
            return isAbove(wanted, type);
        }

        /** Of two types that may be compared the one that the other one fits; VOID if they may not. */
        int common(int left, int right) {
            if (left == right || isReference(left) && isReference(right) && fits(left, right)) {
                return right;
            }
            return isReference(left) && isReference(right) && fits(right, left) ? left : VOID;
        }

        // ---- the rounds of NAMES

        void judgeNames() {
            firstRound();
            settle();
            resolveTypes();
            link();
            for (int k = BUILT_IN; k < size; k++) {
                if (isAbove(k, k)) {
                    report(RING, decls[k].token);
                }
            }
            settle();
            thirdRound();
            settle();
            layOut();
        }

        private void report(int fault, int token) {
            least = Math.min(least, fault + 16 * text.placeAt(token));
        }

        private void settle() {
            if (least != CLEAN) {
                text.fault = least;
                throw new IllegalStateException("the names are at fault");
            }
        }

        private void firstRound() {
            for (int k = BUILT_IN; k < size; k++) {
                Decl decl = decls[k];
                if (find(decl.name) < k) {
                    report(TWICE, decl.token);
                }
                judgeMembers(decl);
                judgeHead(decl);
            }
            for (int token = 0; token < text.size; token++) {
                int role = text.roleAt(token);
                if (role != Text.NO_TYPE) {
                    judgeTypeName(token, role == Text.ANY_TYPE);
                }
            }
        }

        private void judgeMembers(Decl decl) {
            for (int i = 0; i < decl.fields.size(); i++) {
                for (int j = 0; j < i; j++) {
                    if (decl.fields.get(i).name == decl.fields.get(j).name) {
                        report(TWICE, decl.fields.get(i).token);
                    }
                }
            }
            for (int i = 0; i < decl.methods.size(); i++) {
                Method method = decl.methods.get(i);
                if (decl.own(method.name) != method) {
                    report(TWICE, method.token);
                }
            }
        }

        private void judgeHead(Decl decl) {
            if (decl.extended != NONE) {
                judgeAboveName(decl.extended, false);
            }
            for (int i = 0; i < decl.listSize; i++) {
                int token = decl.listed + 2 * i;
                judgeAboveName(token, true);
                for (int j = 0; j < i; j++) {
                    if (text.valueAt(decl.listed + 2 * j) == text.valueAt(token)) {
                        report(KIND, token);
                    }
                }
            }
        }

        private void judgeAboveName(int token, boolean wantsInterface) {
            Decl decl = decl(find(text.valueAt(token)));
            if (decl == null) {
                report(UNKNOWN, token);
            } else if (decl.isInterface != wantsInterface) {
                report(KIND, token);
            }
        }

        private void judgeTypeName(int token, boolean mayBeInterface) {
            Decl decl = decl(find(text.valueAt(token)));
            if (decl == null) {
                report(UNKNOWN, token);
            } else if (decl.isInterface && !mayBeInterface) {
                report(KIND, token);
            }
        }

        private void resolveTypes() {
            for (int token = 0; token < text.size; token++) {
                int type = VOID;
                if (text.roleAt(token) != Text.NO_TYPE) {
                    type = find(text.valueAt(token));
                } else if (text.kindAt(token) == Text.INT || text.kindAt(token) == Text.BOOLEAN) {
                    type = text.kindAt(token) == Text.INT ? INT : BOOLEAN;
                }
                boolean isArray = text.kindAt(token + 1) == Text.OPEN_INDEX
                    && text.kindAt(token + 2) == Text.CLOSE_INDEX;
                text.giveType(token, isArray && type != VOID ? ARRAY + type : type);
            }
        }

        private void link() {
            for (int k = 1; k < size; k++) {
                Decl decl = decls[k];
                decl.above = 1L << OBJECT;
                if (!decl.isInterface) {
                    decl.parent = decl.extended == NONE ? decls[OBJECT] : decl(find(text.valueAt(decl.extended)));
                }
                if (decl.parent != null) {
                    decl.above |= 1L << decl.parent.number;
                }
                for (int i = 0; i < decl.listSize; i++) {
                    decl.above |= 1L << find(text.valueAt(decl.listed + 2 * i));
                }
            }
            for (int middle = 0; middle < size; middle++) {
                for (int k = 0; k < size; k++) {
                    if (isAbove(middle, k)) {
                        decls[k].above |= decls[middle].above;
                    }
                }
            }
        }

        private void thirdRound() {
            for (int k = BUILT_IN; k < size; k++) {
                Decl decl = decls[k];
                for (int upper = 0; upper < size; upper++) {
                    if (isAbove(upper, k)) {
                        judgeFields(decl, decls[upper]);
                        judgeMethods(decl, decls[upper]);
                    }
                }
            }
            Decl main = decl(find(Text.MAIN_CLASS));
            Method begin = main == null || main.isInterface ? null : main.nearest(Text.MAIN_METHOD);
            if (begin == null || text.typeAt(begin.first) != INT || begin.parameters.size() != 0) {
                report(NO_MAIN, text.size);
            }
        }

        private void judgeFields(Decl decl, Decl upper) {
            for (int i = 0; i < decl.fields.size(); i++) {
                for (int j = 0; j < upper.fields.size(); j++) {
                    if (decl.fields.get(i).name == upper.fields.get(j).name) {
                        report(TWICE, decl.fields.get(i).token);
                    }
                }
            }
        }

        private void judgeMethods(Decl decl, Decl upper) {
            for (int i = 0; i < upper.methods.size(); i++) {
                Method method = upper.methods.get(i);
                Method own = decl.own(method.name);
                Method other = own == null ? firstFromAbove(decl, method.name) : own;
                if (!haveOneSignature(method, other)) {
                    report(SIGNATURE, own == null ? decl.token : own.token);
                }
                if (upper.isInterface && !decl.isInterface && decl.nearest(method.name) == null) {
                    report(MISSING, decl.token);
                }
            }
        }

        private Method firstFromAbove(Decl decl, int name) {
            for (int k = 0; k < size; k++) {
                Method method = isAbove(k, decl.number) ? decls[k].own(name) : null;
                if (method != null) {
                    return method;
                }
            }
            return null;
        }

        private boolean haveOneSignature(Method one, Method other) {
            if (other == null || text.typeAt(one.first) != text.typeAt(other.first)
                || one.parameters.size() != other.parameters.size()) {
                return false;
            }
            for (int i = 0; i < one.parameters.size(); i++) {
                if (text.typeAt(one.parameters.get(i).first) != text.typeAt(other.parameters.get(i).first)) {
                    return false;
                }
            }
            return true;
        }

        private void layOut() {
            for (int k = 0; k < size; k++) {
                Decl decl = decls[k];
                layFields(decl);
                learnMethods(decl, decl);
                for (int upper = 0; upper < size; upper++) {
                    if (isAbove(upper, k)) {
                        learnMethods(decl, decls[upper]);
                    }
                }
                for (int i = 0; i < decl.methods.size(); i++) {
                    decl.methods.get(i).result = text.typeAt(decl.methods.get(i).first);
                }
            }
        }

        private void layFields(Decl decl) {
            for (Decl holder = decl; holder != null; holder = holder.parent) {
                for (int i = holder.fields.size() - 1; i >= 0; i--) {
                    decl.layout.add(0, holder.fields.get(i));
                }
            }
            for (int i = 0; i < decl.layout.size(); i++) {
                decl.layout.get(i).slot = i;
            }
        }

        private void learnMethods(Decl decl, Decl holder) {
            for (int i = 0; i < holder.methods.size(); i++) {
                if (decl.methodOf(holder.methods.get(i).name) == null) {
                    decl.known.add(holder.methods.get(i));
                }
            }
        }
    }

    /** Reads the tokens by the grammar; the first token that can't stand where it does ends it, or one too many. */
    static final class Parser {
        private static final int MOST_FIELDS = 20;
        private static final int MOST_METHODS = 30;
        private static final int MOST_PARAMETERS = 8;
        private static final int DEEPEST = 20;
        private static final int MOST_SIGNS = 60;
        private static final int NO_POWER = 0, WEAKEST = 1, STRONGEST = 10;

        private final Text text;
        private Program program;
        private int at;
        /** How many STATEMENTS, brackets, signs ahead and ? are open, each within the one before. */
        private int depth;
        /** How many signs the STATEMENT has that is read. */
        private int signs;

        Parser(Text text) {
            this.text = text;
        }

        void parse(Program fresh) {
            program = fresh;
            at = 0;
            depth = 0;
            signs = 0;
            for (int n = 0; n < text.size && at < text.size; n++) {
                Decl decl = declaration();
                for (int m = 0; m < text.size && !sees(Text.CLOSE_BRACE); m++) {
                    if (decl.isInterface) {
                        told(decl);
                    } else {
                        member(decl);
                    }
                }
                take(Text.CLOSE_BRACE);
            }
        }

        // ---- tokens

        private boolean sees(int kind) {
            return text.kindAt(at) == kind;
        }

        private void refuse() {
            text.fail(Text.SYNTAX, at);
        }

        /** Goes past a token that must be of this kind: its number. */
        private int take(int kind) {
            if (text.kindAt(at) != kind) {
                text.fail(Text.SYNTAX, at);
            }
            at++;
            return at - 1;
        }

        private boolean takeIf(int kind) {
            if (text.kindAt(at) != kind) {
                return false;
            }
            at++;
            return true;
        }

        /** Goes past a TYPE, or a SORT alone: its first token. */
        private int takeType(boolean mayBeArray) {
            int kind = text.kindAt(at);
            if (kind == Text.NAME) {
                text.giveRole(at, Text.ANY_TYPE);
            } else if (kind != Text.INT && kind != Text.BOOLEAN) {
                text.fail(Text.SYNTAX, at);
            }
            int first = at;
            at++;
            if (mayBeArray && text.kindAt(at) == Text.OPEN_INDEX) {
                if (text.kindAt(at + 1) != Text.CLOSE_INDEX) {
                    text.fail(Text.SYNTAX, at + 1);
                }
                at += 2;
            }
            return first;
        }

        /** Begins one more within the others. */
        private void enter() {
            depth++;
            if (depth > DEEPEST) {
                text.fail(Text.LIMIT, at);
            }
        }

        private void leave() {
            depth--;
        }

        private void openBracket(int kind) {
            if (text.kindAt(at) != kind) {
                text.fail(Text.SYNTAX, at);
            }
            depth++;
            if (depth > DEEPEST) {
                text.fail(Text.LIMIT, at);
            }
            at++;
        }

        private int closeBracket(int kind) {
            if (text.kindAt(at) != kind) {
                text.fail(Text.SYNTAX, at);
            }
            depth--;
            at++;
            return at - 1;
        }

        private void countSign() {
            signs++;
            if (signs > MOST_SIGNS) {
                text.fail(Text.LIMIT, at);
            }
        }

        // ---- declarations

        /** A class's or interface's head, up to its members. */
        private Decl declaration() {
            boolean isInterface = sees(Text.INTERFACE);
            if (!isInterface && !sees(Text.CLASS)) {
                refuse();
            }
            if (program.isFull()) {
                text.fail(Text.LIMIT, at);
            }
            at++;
            Decl decl = program.addDecl(take(Text.NAME), isInterface);
            if (!isInterface && takeIf(Text.EXTENDS)) {
                decl.extended = take(Text.NAME);
            }
            if (takeIf(isInterface ? Text.EXTENDS : Text.IMPLEMENTS)) {
                listInterfaces(decl);
            }
            take(Text.OPEN_BRACE);
            return decl;
        }

        private void listInterfaces(Decl decl) {
            decl.listed = take(Text.NAME);
            decl.listSize = 1;
            for (int n = 0; n < text.size && takeIf(Text.COMMA); n++) {
                take(Text.NAME);
                decl.listSize++;
            }
        }

        private void told(Decl decl) {
            int first = takeResult();
            int name = take(Text.NAME);
            head(decl, first, name);
            take(Text.SEMICOLON);
        }

        private void member(Decl decl) {
            boolean isVoid = sees(Text.VOID);
            int first = takeResult();
            int name = take(Text.NAME);
            if (sees(Text.OPEN)) {
                Method method = head(decl, first, name);
                method.number = program.methods.size();
                program.methods.add(method);
                method.body = block();
            } else if (!isVoid && (sees(Text.COMMA) || sees(Text.SEMICOLON))) {
                addField(decl, first, name);
                for (int n = 0; n < text.size && takeIf(Text.COMMA); n++) {
                    addField(decl, first, take(Text.NAME));
                }
                take(Text.SEMICOLON);
            } else {
                refuse();
            }
        }

        private int takeResult() {
            return sees(Text.VOID) ? take(Text.VOID) : takeType(true);
        }

        private void addField(Decl decl, int first, int name) {
            if (decl.fields.size() >= MOST_FIELDS) {
                text.fail(Text.LIMIT, name);
            }
            decl.fields.add(variable(first, name));
        }

        private Node variable(int first, int name) {
            Node variable = new Node(Node.VARIABLE, name, first);
            variable.name = text.valueAt(name);
            return variable;
        }

        /** A method's head from its NAME, which has been read, on. */
        private Method head(Decl decl, int first, int name) {
            if (decl.methods.size() >= MOST_METHODS) {
                text.fail(Text.LIMIT, name);
            }
            Method method = new Method(decl, text.valueAt(name), name, first);
            decl.methods.add(method);
            take(Text.OPEN);
            boolean more = !sees(Text.CLOSE);
            for (int n = 0; n < text.size && more; n++) {
                boolean beginsType = sees(Text.INT) || sees(Text.BOOLEAN) || sees(Text.NAME);
                if (beginsType && method.parameters.size() >= MOST_PARAMETERS) {
                    text.fail(Text.LIMIT, at);
                }
                int typed = takeType(true);
                method.parameters.add(variable(typed, take(Text.NAME)));
                more = takeIf(Text.COMMA);
            }
            take(Text.CLOSE);
            return method;
        }

        // ---- statements

        private Node block() {
            Node block = new Node(Node.BLOCK, at, at);
            take(Text.OPEN_BRACE);
            Node last = null;
            for (int n = 0; n < text.size && !sees(Text.CLOSE_BRACE); n++) {
                Node part = statement(true);
                if (last == null) {
                    block.a = part;
                } else {
                    last.next = part;
                }
                last = part;
            }
            block.end = take(Text.CLOSE_BRACE);
            return block;
        }

        /** A STATEMENT, or a LOCAL where one may stand. */
        private Node statement(boolean mayBeLocal) {
            boolean isLocal = mayBeLocal && beginsLocal();
            if (!isLocal && !beginsStatement()) {
                refuse();
            }
            enter();
            int outerSigns = signs;
            signs = 0;
            Node statement = isLocal ? local(true) : statementBy(text.kindAt(at));
            signs = outerSigns;
            leave();
            return statement;
        }

        private boolean beginsLocal() {
            if (!sees(Text.NAME)) {
                return sees(Text.INT) || sees(Text.BOOLEAN);
            }
            int behind = text.kindAt(at + 1);
            return behind == Text.NAME || behind == Text.OPEN_INDEX && text.kindAt(at + 2) == Text.CLOSE_INDEX;
        }

        private boolean beginsStatement() {
            switch (text.kindAt(at)) {
                case Text.OPEN_BRACE:
                case Text.SEMICOLON:
                case Text.IF:
                case Text.WHILE:
                case Text.FOR:
                case Text.RETURN:
                case Text.BREAK:
                case Text.CONTINUE:
                case Text.THROW:
                case Text.TRY:
                case Text.PRINT:
                    return true;
                default:
                    return beginsChain();
            }
        }

        private boolean beginsChain() {
            switch (text.kindAt(at)) {
                case Text.NUMBER:
                case Text.TRUE:
                case Text.FALSE:
                case Text.NULL:
                case Text.THIS:
                case Text.NAME:
                case Text.SUPER:
                case Text.NEW:
                case Text.OPEN:
                case Text.READ:
                    return true;
                default:
                    return false;
            }
        }

        /** A LOCAL, or as FIRST what has a value always and no semicolon. */
        private Node local(boolean isStatement) {
            int first = takeType(true);
            Node local = new Node(Node.LOCAL, take(Text.NAME), first);
            if (!isStatement || sees(Text.ASSIGN)) {
                take(Text.ASSIGN);
                local.a = expression();
            }
            if (isStatement) {
                take(Text.SEMICOLON);
            }
            return local;
        }

        private Node statementBy(int kind) {
            switch (kind) {
                case Text.OPEN_BRACE:
                    return block();
                case Text.IF:
                    return ifStatement();
                case Text.WHILE:
                    return whileStatement();
                case Text.FOR:
                    return forStatement();
                case Text.TRY:
                    return tryStatement();
                case Text.PRINT:
                    return printStatement();
                case Text.RETURN:
                    return wordStatement(Node.RETURN, text.kindAt(at + 1) != Text.SEMICOLON);
                case Text.THROW:
                    return wordStatement(Node.THROW, true);
                case Text.BREAK:
                    return wordStatement(Node.BREAK, false);
                case Text.CONTINUE:
                    return wordStatement(Node.CONTINUE, false);
                case Text.SEMICOLON:
                    return new Node(Node.EMPTY, take(Text.SEMICOLON), at - 1);
                default:
                    Node simple = simple(true);
                    take(Text.SEMICOLON);
                    return simple;
            }
        }

        /** A word, an E if there is to be one, and a semicolon. */
        private Node wordStatement(int kind, boolean hasValue) {
            Node statement = new Node(kind, at, at);
            at++;
            if (hasValue) {
                statement.a = expression();
            }
            take(Text.SEMICOLON);
            return statement;
        }

        /** PLACE = E, or a CALL where one may stand. */
        private Node simple(boolean mayBeCall) {
            int first = at;
            Node chain = chain();
            if (mayBeCall && chain.isCall()) {
                Node call = new Node(Node.DO, first, first);
                call.a = chain;
                return call;
            }
            if (!chain.isPlace()) {
                refuse();
            }
            Node assign = new Node(Node.ASSIGN, take(Text.ASSIGN), first);
            assign.a = chain;
            assign.b = expression();
            return assign;
        }

        private Node condition() {
            take(Text.OPEN);
            Node condition = expression();
            take(Text.CLOSE);
            return condition;
        }

        private Node ifStatement() {
            Node statement = new Node(Node.IF, at, at);
            at++;
            statement.a = condition();
            statement.b = statement(false);
            if (takeIf(Text.ELSE)) {
                statement.c = statement(false);
            }
            return statement;
        }

        private Node whileStatement() {
            Node statement = new Node(Node.WHILE, at, at);
            at++;
            statement.b = condition();
            statement.d = statement(false);
            return statement;
        }

        private Node forStatement() {
            Node statement = new Node(Node.FOR, at, at);
            at++;
            take(Text.OPEN);
            if (!sees(Text.SEMICOLON)) {
                statement.a = beginsLocal() ? local(false) : simple(false);
            }
            take(Text.SEMICOLON);
            if (!sees(Text.SEMICOLON)) {
                statement.b = expression();
            }
            take(Text.SEMICOLON);
            if (!sees(Text.CLOSE)) {
                statement.c = simple(true);
            }
            take(Text.CLOSE);
            statement.d = statement(false);
            return statement;
        }

        private Node tryStatement() {
            Node statement = new Node(Node.TRY, at, at);
            at++;
            statement.a = block();
            Node last = null;
            for (int n = 0; n < text.size && sees(Text.CATCH); n++) {
                Node handler = catchBlock();
                if (last == null) {
                    statement.b = handler;
                } else {
                    last.next = handler;
                }
                last = handler;
            }
            if (last == null && !sees(Text.FINALLY)) {
                refuse();
            }
            if (takeIf(Text.FINALLY)) {
                statement.c = block();
            }
            return statement;
        }

        private Node catchBlock() {
            take(Text.CATCH);
            take(Text.OPEN);
            int caught = take(Text.NAME);
            text.giveRole(caught, Text.CAUGHT);
            Node handler = new Node(Node.CATCH, take(Text.NAME), caught);
            take(Text.CLOSE);
            handler.a = block();
            return handler;
        }

        private Node printStatement() {
            Node statement = new Node(Node.PRINT, at, at);
            at++;
            take(Text.OPEN);
            statement.a = expression();
            take(Text.CLOSE);
            take(Text.SEMICOLON);
            return statement;
        }

        // ---- E's

        private Node expression() {
            Node left = signed(WEAKEST);
            if (!sees(Text.QUESTION)) {
                return left;
            }
            enter();
            Node choice = new Node(Node.CHOICE, take(Text.QUESTION), left.first);
            choice.a = left;
            choice.b = expression();
            take(Text.COLON);
            choice.c = expression();
            leave();
            return choice;
        }

        /** How strongly a sign between two binds; NO_POWER of what is none. */
        private static int power(int kind) {
            switch (kind) {
                case Text.EITHER:
                    return WEAKEST;
                case Text.BOTH:
                    return 2;
                case Text.OR:
                    return 3;
                case Text.XOR:
                    return 4;
                case Text.AND:
                    return 5;
                case Text.SAME:
                case Text.OTHER:
                    return 6;
                case Text.LESS:
                case Text.LESS_SAME:
                case Text.MORE:
                case Text.MORE_SAME:
                case Text.IS:
                case Text.AS:
                    return 7;
                case Text.LEFT:
                case Text.RIGHT:
                case Text.FAR_RIGHT:
                    return 8;
                case Text.PLUS:
                case Text.MINUS:
                    return 9;
                case Text.TIMES:
                case Text.DIVIDE:
                case Text.REMAINDER:
                    return STRONGEST;
                default:
                    return NO_POWER;
            }
        }

        /** Operands with signs between that bind at least so strongly. */
        private Node signed(int least) {
            Node left = prefixed();
            int power = power(text.kindAt(at));
            // Behind the TYPE of is and as there may be a stronger sign, which can't stand there.
            int most = STRONGEST;
            for (int n = 0; n < text.size && power >= least && power <= most; n++) {
                countSign();
                Node node = new Node(signNode(text.kindAt(at)), at, left.first);
                at++;
                node.a = left;
                if (node.kind == Node.CHECK) {
                    takeType(true);
                } else {
                    node.b = signed(power + 1);
                }
                left = node;
                most = power;
                power = power(text.kindAt(at));
            }
            return left;
        }

        private static int signNode(int kind) {
            if (kind == Text.IS || kind == Text.AS) {
                return Node.CHECK;
            }
            return kind == Text.BOTH || kind == Text.EITHER ? Node.SHORT : Node.SIGN;
        }

        private Node prefixed() {
            if (!sees(Text.MINUS) && !sees(Text.INVERT) && !sees(Text.NOT)) {
                return chain();
            }
            enter();
            Node node = new Node(sees(Text.NOT) ? Node.NOT : Node.PREFIX, at, at);
            at++;
            node.a = prefixed();
            leave();
            return node;
        }

        private Node chain() {
            Node chain = operand();
            for (int n = 0; n < text.size && (sees(Text.DOT) || sees(Text.OPEN_INDEX)); n++) {
                countSign();
                chain = sees(Text.DOT) ? dotted(chain) : indexed(chain);
            }
            return chain;
        }

        private Node dotted(Node ahead) {
            take(Text.DOT);
            boolean isLength = takeIf(Text.LENGTH);
            int name = isLength ? at - 1 : take(Text.NAME);
            boolean isCall = !isLength && sees(Text.OPEN);
            Node node = new Node(isLength ? Node.LENGTH : isCall ? Node.CALL : Node.FIELD, name, ahead.first);
            node.a = ahead;
            if (isCall) {
                arguments(node);
            }
            return node;
        }

        private Node indexed(Node ahead) {
            Node node = new Node(Node.INDEX, at, ahead.first);
            node.a = ahead;
            node.b = bracketed(Text.OPEN_INDEX, Text.CLOSE_INDEX);
            return node;
        }

        private Node bracketed(int open, int close) {
            openBracket(open);
            Node inner = expression();
            closeBracket(close);
            return inner;
        }

        private void arguments(Node call) {
            openBracket(Text.OPEN);
            Node last = null;
            boolean more = !sees(Text.CLOSE);
            for (int n = 0; n < text.size && more; n++) {
                Node argument = expression();
                if (last == null) {
                    call.b = argument;
                } else {
                    last.next = argument;
                }
                last = argument;
                more = takeIf(Text.COMMA);
            }
            call.end = closeBracket(Text.CLOSE);
        }

        private Node operand() {
            switch (text.kindAt(at)) {
                case Text.NUMBER:
                    return leaf(Node.NUMBER);
                case Text.TRUE:
                    return leaf(Node.TRUE);
                case Text.FALSE:
                    return leaf(Node.FALSE);
                case Text.NULL:
                    return leaf(Node.NULL);
                case Text.THIS:
                    return leaf(Node.THIS);
                case Text.NAME:
                    return named();
                case Text.SUPER:
                    return superCall();
                case Text.NEW:
                    return made();
                case Text.OPEN:
                    Node group = new Node(Node.GROUP, at, at);
                    group.a = bracketed(Text.OPEN, Text.CLOSE);
                    return group;
                case Text.READ:
                    Node number = leaf(Node.READ);
                    openBracket(Text.OPEN);
                    closeBracket(Text.CLOSE);
                    return number;
                default:
                    refuse();
                    return null;
            }
        }

        private Node leaf(int kind) {
            at++;
            return new Node(kind, at - 1, at - 1);
        }

        private Node named() {
            if (text.kindAt(at + 1) != Text.OPEN) {
                return leaf(Node.NAME);
            }
            Node call = leaf(Node.CALL);
            arguments(call);
            return call;
        }

        private Node superCall() {
            int first = take(Text.SUPER);
            take(Text.DOT);
            Node call = new Node(Node.SUPER, take(Text.NAME), first);
            arguments(call);
            return call;
        }

        private Node made() {
            int first = take(Text.NEW);
            int name = takeType(false);
            if (text.kindAt(name) == Text.NAME && sees(Text.OPEN)) {
                text.giveRole(name, Text.NEW_OBJECT);
                openBracket(Text.OPEN);
                closeBracket(Text.CLOSE);
                return new Node(Node.OBJECT, name, first);
            }
            Node array = new Node(Node.ARRAY, name, first);
            array.a = bracketed(Text.OPEN_INDEX, Text.CLOSE_INDEX);
            return array;
        }
    }

    /** A loop that is judged: its jumps that are still to be aimed, and what is assigned for certain at them. */
    static final class Loop {
        final Loop outer;
        /** How many LASTS were around it. */
        final int lasts;
        int breaks;
        int continues;
        int breakState;
        int continueState;

        Loop(Loop outer, int lasts) {
            this.outer = outer;
            this.lasts = lasts;
            breaks = NONE;
            continues = NONE;
            breakState = Bodies.EVERYTHING;
            continueState = Bodies.EVERYTHING;
        }
    }

    /** Judges the methods' BLOCKS by types and by what is assigned for certain, and writes their code as it goes. */
    static final class Bodies {
        /** What is assigned where one can't come: a bit for each variable, and more, so that no others make it up. */
        static final int EVERYTHING = -1;
        private static final int MOST_VARIABLES = 30;
        private static final int NOT_KNOWN = 10, TYPE = 11, ARGUMENTS = 12, UNASSIGNED = 13, SCOPE = 14, NO_END = 15;

        private final Text text;
        private final Code code;
        // The variables in scope.
        private final int[] names;
        private final int[] types;
        private final int[] slots;
        private int variables;
        private Program program;
        private Method method;
        private int assigned;
        // What is assigned behind the E that was judged last.
        private int whenTrue;
        private int whenFalse;
        private Loop loop;
        /** How many LASTS are done when one leaves from here. */
        private int lasts;

        Bodies(Text text, Code code) {
            this.text = text;
            this.code = code;
            names = new int[MOST_VARIABLES];
            types = new int[MOST_VARIABLES];
            slots = new int[MOST_VARIABLES];
        }

        void judge(Program fresh) {
            program = fresh;
            code.clear();
            for (int k = 0; k < program.size; k++) {
                Decl decl = program.decl(k);
                for (int i = 0; decl != null && i < decl.methods.size(); i++) {
                    beginMethod(decl.methods.get(i));
                    if (method.body != null) {
                        block(method.body);
                        endMethod();
                    }
                }
            }
        }

        /** Looks at the PARAMETERS; also of methods that interfaces tell. */
        private void beginMethod(Method judged) {
            method = judged;
            loop = null;
            lasts = 0;
            variables = 0;
            assigned = 0;
            code.beginMethod();
            method.entry = code.size;
            method.firstRegion = code.regions;
            for (int i = 0; i < method.parameters.size(); i++) {
                Node parameter = method.parameters.get(i);
                int variable = declare(parameter.token, text.typeAt(parameter.first));
                assigned |= 1 << variable;
            }
        }

        private void endMethod() {
            if (method.result != Program.VOID && assigned != EVERYTHING) {
                text.fail(NO_END, method.body.end);
            }
            code.emit(method.result == Program.VOID ? Code.RETURN : Code.REFUSE, 0, 0);
            method.slots = code.deepest;
            method.regionsEnd = code.regions;
        }

        // ---- variables

        /** Brings a variable into scope, without a value: its number. */
        private int declare(int token, int type) {
            int name = text.valueAt(token);
            if (variables >= MOST_VARIABLES || variable(name) != NONE) {
                text.fail(SCOPE, token);
                return 0;
            }
            names[variables] = name;
            types[variables] = type;
            slots[variables] = code.held;
            code.hold(1);
            if (assigned != EVERYTHING) {
                assigned &= ~(1 << variables);
            }
            variables++;
            return variables - 1;
        }

        /** The number of the variable of that name that is in scope; NONE without one. */
        private int variable(int name) {
            for (int i = 0; i < variables; i++) {
                if (names[i] == name) {
                    return i;
                }
            }
            return NONE;
        }

        private void endScope(int outerVariables, int outerHeld) {
            variables = outerVariables;
            code.held = outerHeld;
        }

        // ---- statements

        private void block(Node block) {
            int outerVariables = variables;
            int outerHeld = code.held;
            for (Node part = block.a; part != null; part = part.next) {
                statement(part, true);
            }
            endScope(outerVariables, outerHeld);
        }

        /** FIRST and NEXT take no FUEL of their own. */
        private void statement(Node statement, boolean takesFuel) {
            if (takesFuel && statement.kind != Node.BLOCK && statement.kind != Node.EMPTY) {
                code.emit(Code.FUEL, 0, 0);
            }
            switch (statement.kind) {
                case Node.BLOCK:
                    block(statement);
                    break;
                case Node.IF:
                    ifStatement(statement);
                    break;
                case Node.WHILE:
                case Node.FOR:
                    loopStatement(statement);
                    break;
                case Node.RETURN:
                    returnStatement(statement);
                    break;
                case Node.BREAK:
                case Node.CONTINUE:
                    jumpStatement(statement);
                    break;
                case Node.THROW:
                    throwStatement(statement);
                    break;
                case Node.TRY:
                    tryStatement(statement);
                    break;
                case Node.LOCAL:
                    local(statement);
                    break;
                case Node.ASSIGN:
                    assign(statement.a, statement.b);
                    break;
                case Node.PRINT:
                    fit(statement.a, value(statement.a), Program.INT);
                    code.emit(Code.PRINT, 0, 0);
                    break;
                case Node.DO:
                    if (value(statement.a) != Program.VOID) {
                        code.emit(Code.POP, 0, 0);
                    }
                    break;
                default:
                    break;
            }
        }

        private void local(Node local) {
            int type = text.typeAt(local.first);
            int variable = declare(local.token, type);
            int slot = slots[variable];
            // What an earlier variable left in the slot is not held any more.
            code.emit(Code.CLEAR, slot, 0);
            if (local.a != null) {
                fit(local.a, value(local.a), type);
                code.emit(Code.STORE, slot, 0);
                assigned |= 1 << variable;
            }
        }

        private void assign(Node place, Node e) {
            int variable = place.kind == Node.NAME ? variable(text.valueAt(place.token)) : NONE;
            if (variable != NONE) {
                fit(e, value(e), types[variable]);
                code.emit(Code.STORE, slots[variable], 0);
                assigned |= 1 << variable;
            } else if (place.kind == Node.INDEX) {
                int type = element(place);
                fit(e, value(e), type);
                code.emit(Code.PUT_ELEMENT, 0, 0);
            } else {
                int type = place.kind == Node.NAME ? ownField(place) : fieldBehind(place);
                fit(e, value(e), type);
                code.emit(Code.PUT_FIELD, place.slot, 0);
            }
        }

        private int ownField(Node e) {
            code.emit(Code.LOAD, 0, 0);
            return fieldType(method.owner, e);
        }

        private void ifStatement(Node statement) {
            fit(statement.a, value(statement.a), Program.BOOLEAN);
            int otherwise = whenFalse;
            assigned = whenTrue;
            int skip = code.jump(Code.JUMP_FALSE, NONE, 0);
            statement(statement.b, true);
            if (statement.c == null) {
                code.land(skip);
                assigned &= otherwise;
                return;
            }
            int end = code.jump(Code.JUMP, NONE, 0);
            code.land(skip);
            int then = assigned;
            assigned = otherwise;
            statement(statement.c, true);
            code.land(end);
            assigned &= then;
        }

        private void loopStatement(Node statement) {
            int outerVariables = variables;
            int outerHeld = code.held;
            if (statement.a != null) {
                statement(statement.a, false);
            }
            int start = code.size;
            code.emit(Code.FUEL, 0, 0);
            int exit = loopCondition(statement.b);
            int end = whenFalse;
            assigned = whenTrue;
            loop = new Loop(loop, lasts);
            statement(statement.d, true);
            code.land(loop.continues);
            if (statement.c != null) {
                assigned &= loop.continueState;
                statement(statement.c, false);
            }
            code.emit(Code.JUMP, start, 0);
            code.land(exit);
            code.land(loop.breaks);
            assigned = end & loop.breakState;
            loop = loop.outer;
            endScope(outerVariables, outerHeld);
        }

        /** The jump out of the loop; without a condition there is none, as of true. */
        private int loopCondition(Node condition) {
            if (condition == null) {
                whenTrue = assigned;
                whenFalse = EVERYTHING;
                return NONE;
            }
            fit(condition, value(condition), Program.BOOLEAN);
            return code.jump(Code.JUMP_FALSE, NONE, 0);
        }

        private void returnStatement(Node statement) {
            if (statement.a != null) {
                fit(statement.a, value(statement.a), method.result);
            } else if (method.result != Program.VOID) {
                text.fail(TYPE, statement.token);
            }
            code.emit(statement.a == null ? Code.RETURN : Code.RETURN_VALUE, 0, 0);
            assigned = EVERYTHING;
        }

        private void jumpStatement(Node statement) {
            if (loop == null) {
                text.fail(SCOPE, statement.token);
                return;
            }
            int operation = lasts > loop.lasts ? Code.LEAVE : Code.JUMP;
            if (statement.kind == Node.BREAK) {
                loop.breaks = code.jump(operation, loop.breaks, 0);
                loop.breakState &= assigned;
            } else {
                loop.continues = code.jump(operation, loop.continues, 0);
                loop.continueState &= assigned;
            }
            assigned = EVERYTHING;
        }

        private void throwStatement(Node statement) {
            Decl decl = program.decl(value(statement.a));
            if (decl == null || decl.isInterface) {
                text.fail(TYPE, statement.a.first);
            }
            code.emit(Code.THROW, 0, 0);
            assigned = EVERYTHING;
        }

        private void tryStatement(Node statement) {
            boolean hasLast = statement.c != null;
            int onward = hasLast ? Code.ENTER_LAST : Code.JUMP;
            int slot = code.held;
            int began = assigned;
            lasts += hasLast ? 1 : 0;
            int start = code.size;
            block(statement.a);
            int end = code.size;
            int ways = code.jump(onward, NONE, slot);
            int state = assigned;
            for (Node handler = statement.b; handler != null; handler = handler.next) {
                code.addRegion(start, end, text.typeAt(handler.first), slot);
                assigned = began;
                catchBlock(handler);
                ways = code.jump(onward, ways, slot);
                state &= assigned;
            }
            lasts -= hasLast ? 1 : 0;
            code.land(ways);
            assigned = state;
            if (hasLast) {
                code.addRegion(start, code.size, Code.ANYTHING, slot);
                assigned = began;
                last(statement.c, slot);
                assigned |= state;
            }
        }

        private void catchBlock(Node handler) {
            int outerVariables = variables;
            int outerHeld = code.held;
            int variable = declare(handler.token, text.typeAt(handler.first));
            assigned |= 1 << variable;
            block(handler.a);
            endScope(outerVariables, outerHeld);
        }

        /** LAST keeps in two slots of its own how, and with what value, its try was left. */
        private void last(Node block, int slot) {
            code.hold(2);
            block(block);
            code.emit(Code.END_LAST, slot, 0);
            code.held = slot;
        }

        // ---- E's

        /** An E that has been judged is of this type, and must fit. */
        private void fit(Node e, int type, int wanted) {
            if (!program.fits(type, wanted)) {
                text.fail(TYPE, e.first);
            }
        }

        /** Judges an E and has it worked out: its type, and in whenTrue, whenFalse what is assigned behind it. */
        private int value(Node e) {
            int type;
            switch (e.kind) {
                case Node.GROUP:
                    return value(e.a);
                case Node.TRUE:
                case Node.FALSE:
                    return truth(e.kind == Node.TRUE);
                case Node.NOT:
                    return negation(e);
                case Node.SHORT:
                    return shortened(e, text.kindAt(e.token) == Text.BOTH);
                case Node.CHOICE:
                    return choice(e);
                case Node.PREFIX:
                    type = prefix(e);
                    break;
                case Node.SIGN:
                    type = sign(e, text.kindAt(e.token));
                    break;
                case Node.CHECK:
                    type = check(e);
                    break;
                case Node.FIELD:
                    type = fieldBehind(e);
                    code.emit(Code.GET_FIELD, e.slot, 0);
                    break;
                case Node.INDEX:
                    type = element(e);
                    code.emit(Code.GET_ELEMENT, 0, 0);
                    break;
                case Node.LENGTH:
                    type = length(e);
                    break;
                case Node.CALL:
                    type = call(e);
                    break;
                case Node.SUPER:
                    type = superCall(e);
                    break;
                case Node.ARRAY:
                    type = newArray(e);
                    break;
                case Node.NAME:
                    type = variableValue(e);
                    break;
                default:
                    type = single(e);
                    break;
            }
            whenTrue = assigned;
            whenFalse = assigned;
            return type;
        }

        private int give(int operation, int operand, int type) {
            code.emit(operation, operand, 0);
            return type;
        }

        /** An OPERAND without parts, and no NAME. */
        private int single(Node e) {
            switch (e.kind) {
                case Node.NUMBER:
                    return give(Code.CONSTANT, text.valueAt(e.token), Program.INT);
                case Node.NULL:
                    return give(Code.CONSTANT, 0, Program.NULL);
                case Node.THIS:
                    return give(Code.LOAD, 0, method.owner.number);
                case Node.READ:
                    return give(Code.READ, 0, Program.INT);
                case Node.OBJECT:
                    return give(Code.MAKE_OBJECT, text.typeAt(e.token), text.typeAt(e.token));
                default:
                    return Program.VOID;
            }
        }

        private int variableValue(Node e) {
            int variable = variable(text.valueAt(e.token));
            if (variable == NONE) {
                code.emit(Code.LOAD, 0, 0);
                int type = fieldType(method.owner, e);
                return give(Code.GET_FIELD, e.slot, type);
            }
            if ((assigned >>> variable & 1) == 0) {
                text.fail(UNASSIGNED, e.token);
            }
            return give(Code.LOAD, slots[variable], types[variable]);
        }

        private int fieldBehind(Node e) {
            Decl decl = program.decl(value(e.a));
            if (decl == null || decl.isInterface) {
                text.fail(TYPE, e.a.first);
            }
            return fieldType(decl, e);
        }

        private int fieldType(Decl decl, Node e) {
            Node field = decl == null ? null : decl.fieldOf(text.valueAt(e.token));
            if (field == null) {
                text.fail(NOT_KNOWN, e.token);
                return Program.VOID;
            }
            e.slot = field.slot;
            return text.typeAt(field.first);
        }

        /** The type of an array's elements. */
        private int elementType(Node array, int type) {
            if (type < Program.ARRAY) {
                text.fail(TYPE, array.first);
            }
            return type - Program.ARRAY;
        }

        private int element(Node e) {
            int type = elementType(e.a, value(e.a));
            fit(e.b, value(e.b), Program.INT);
            return type;
        }

        private int length(Node e) {
            elementType(e.a, value(e.a));
            return give(Code.LENGTH, 0, Program.INT);
        }

        private int newArray(Node e) {
            fit(e.a, value(e.a), Program.INT);
            int type = Program.ARRAY + text.typeAt(e.token);
            return give(Code.MAKE_ARRAY, type, type);
        }

        private int call(Node e) {
            Decl decl = method.owner;
            if (e.a == null) {
                code.emit(Code.LOAD, 0, 0);
            } else {
                decl = program.decl(value(e.a));
                if (decl == null) {
                    text.fail(TYPE, e.a.first);
                }
            }
            int name = text.valueAt(e.token);
            return arguments(e, decl == null ? null : decl.methodOf(name), Code.CALL, name);
        }

        private int superCall(Node e) {
            code.emit(Code.LOAD, 0, 0);
            Decl parent = method.owner.parent;
            Method known = parent == null ? null : parent.nearest(text.valueAt(e.token));
            return arguments(e, known, Code.CALL_SUPER, known == null ? NONE : known.number);
        }

        private int arguments(Node e, Method known, int operation, int target) {
            if (known == null) {
                text.fail(NOT_KNOWN, e.token);
                return Program.VOID;
            }
            int number = 0;
            for (Node argument = e.b; argument != null; argument = argument.next) {
                if (number >= known.parameters.size()) {
                    text.fail(ARGUMENTS, argument.first);
                } else {
                    fit(argument, value(argument), text.typeAt(known.parameters.get(number).first));
                }
                number++;
            }
            if (number < known.parameters.size()) {
                text.fail(ARGUMENTS, e.end);
            }
            code.emit(operation, target, number);
            return known.result;
        }

        /** is and as; their TYPE stands right behind them. */
        private int check(Node e) {
            if (!Program.isReference(value(e.a))) {
                text.fail(TYPE, e.a.first);
            }
            int type = text.typeAt(e.token + 1);
            if (!Program.isReference(type)) {
                text.fail(TYPE, e.token + 1);
            }
            if (text.kindAt(e.token) == Text.IS) {
                return give(Code.IS, type, Program.BOOLEAN);
            }
            return give(Code.AS, type, type);
        }

        private int prefix(Node e) {
            fit(e.a, value(e.a), Program.INT);
            return give(Code.PREFIX, text.kindAt(e.token), Program.INT);
        }

        private int sign(Node e, int kind) {
            int left = value(e.a);
            switch (kind) {
                case Text.SAME:
                case Text.OTHER:
                    if (program.common(left, value(e.b)) == Program.VOID) {
                        text.fail(TYPE, e.token);
                    }
                    return give(Code.SIGN, kind, Program.BOOLEAN);
                case Text.AND:
                case Text.OR:
                case Text.XOR:
                    if (left != Program.INT && left != Program.BOOLEAN) {
                        text.fail(TYPE, e.a.first);
                    }
                    fit(e.b, value(e.b), left);
                    return give(Code.SIGN, kind, left);
                default:
                    fit(e.a, left, Program.INT);
                    fit(e.b, value(e.b), Program.INT);
                    boolean compares = kind >= Text.LESS && kind <= Text.MORE_SAME;
                    return give(Code.SIGN, kind, compares ? Program.BOOLEAN : Program.INT);
            }
        }

        // ---- E's of which whenTrue and whenFalse may differ

        private int truth(boolean isTrue) {
            whenTrue = isTrue ? assigned : EVERYTHING;
            whenFalse = isTrue ? EVERYTHING : assigned;
            return give(Code.CONSTANT, isTrue ? 1 : 0, Program.BOOLEAN);
        }

        private int negation(Node e) {
            fit(e.a, value(e.a), Program.BOOLEAN);
            int turned = whenTrue;
            whenTrue = whenFalse;
            whenFalse = turned;
            return give(Code.PREFIX, Text.NOT, Program.BOOLEAN);
        }

        private int shortened(Node e, boolean isBoth) {
            fit(e.a, value(e.a), Program.BOOLEAN);
            int leftTrue = whenTrue;
            int leftFalse = whenFalse;
            int skip = code.jump(isBoth ? Code.SKIP_FALSE : Code.SKIP_TRUE, NONE, 0);
            assigned = isBoth ? leftTrue : leftFalse;
            fit(e.b, value(e.b), Program.BOOLEAN);
            code.land(skip);
            if (isBoth) {
                whenFalse &= leftFalse;
            } else {
                whenTrue &= leftTrue;
            }
            assigned = whenTrue & whenFalse;
            return Program.BOOLEAN;
        }

        private int choice(Node e) {
            fit(e.a, value(e.a), Program.BOOLEAN);
            int otherwise = whenFalse;
            assigned = whenTrue;
            int skip = code.jump(Code.JUMP_FALSE, NONE, 0);
            int left = value(e.b);
            int leftTrue = whenTrue;
            int leftFalse = whenFalse;
            int end = code.jump(Code.JUMP, NONE, 0);
            code.land(skip);
            assigned = otherwise;
            int type = program.common(left, value(e.c));
            if (type == Program.VOID) {
                text.fail(TYPE, e.token);
            }
            code.land(end);
            whenTrue &= leftTrue;
            whenFalse &= leftFalse;
            assigned = whenTrue & whenFalse;
            return type;
        }
    }

    /** What the machine works on: instructions, and the regions of the text's tries within them. */
    static final class Code {
        static final int FUEL = 0, CONSTANT = 1, LOAD = 2, STORE = 3, CLEAR = 4, POP = 5, JUMP = 6, JUMP_FALSE = 7;
        // These two leave their truth where it is if they jump.
        static final int SKIP_FALSE = 8, SKIP_TRUE = 9;
        static final int SIGN = 10, PREFIX = 11, READ = 12, PRINT = 13, IS = 14, AS = 15, LENGTH = 16, GET_FIELD = 17;
        static final int PUT_FIELD = 18, GET_ELEMENT = 19, PUT_ELEMENT = 20, MAKE_OBJECT = 21, MAKE_ARRAY = 22;
        static final int CALL = 23, CALL_SUPER = 24, THROW = 25, RETURN = 26, RETURN_VALUE = 27;
        // A jump out of tries that have LASTS; the way into a LAST, and out of it.
        static final int LEAVE = 28, ENTER_LAST = 29, END_LAST = 30;
        // Stands where no run comes.
        static final int REFUSE = 31;
        /** Instead of a CATCH's class: the region is that of a LAST. */
        static final int ANYTHING = -1;
        // Far above what a text of 5,000 bytes can need: no token takes two instructions on an average.
        private static final int MOST_INSTRUCTIONS = 2 * TAPE_BYTES;
        private static final int MOST_REGIONS = TAPE_BYTES / 8;

        private final int[] operations;
        private final int[] lefts;
        private final int[] rights;
        /** How many slots hold variables in scope at the instruction. */
        private final int[] helds;
        int size;
        private final int[] starts;
        private final int[] ends;
        private final int[] handlers;
        private final int[] classes;
        private final int[] slots;
        int regions;
        // Of the method that is written: slots that are held now, and the most that were.
        int held;
        int deepest;

        Code() {
            operations = new int[MOST_INSTRUCTIONS];
            lefts = new int[MOST_INSTRUCTIONS];
            rights = new int[MOST_INSTRUCTIONS];
            helds = new int[MOST_INSTRUCTIONS];
            starts = new int[MOST_REGIONS];
            ends = new int[MOST_REGIONS];
            handlers = new int[MOST_REGIONS];
            classes = new int[MOST_REGIONS];
            slots = new int[MOST_REGIONS];
        }

        void clear() {
            size = 0;
            regions = 0;
        }

        /** A method's first slot is that of this. */
        void beginMethod() {
            held = 1;
            deepest = 1;
        }

        void hold(int more) {
            held += more;
            deepest = Math.max(deepest, held);
        }

        void emit(int operation, int left, int right) {
            if (size < MOST_INSTRUCTIONS) {
                operations[size] = operation;
                lefts[size] = left;
                rights[size] = right;
                helds[size] = held;
                size++;
            }
        }

        /** A jump that is to be aimed later, together with those of the chain: the new chain. */
        int jump(int operation, int chain, int right) {
            emit(operation, chain, right);
            return size - 1;
        }

        /** Aims the jumps of a chain at what comes next. */
        void land(int chain) {
            int jump = chain;
            for (int n = 0; n < size && jump >= 0 && jump < size; n++) {
                int next = lefts[jump];
                lefts[jump] = size;
                jump = next;
            }
        }

        /** A region whose handler comes next. */
        void addRegion(int start, int end, int caught, int slot) {
            if (regions < MOST_REGIONS) {
                starts[regions] = start;
                ends[regions] = end;
                handlers[regions] = size;
                classes[regions] = caught;
                slots[regions] = slot;
                regions++;
            }
        }

        int operation(int at) {
            return at >= 0 && at < size ? operations[at] : REFUSE;
        }

        int left(int at) {
            return at >= 0 && at < size ? lefts[at] : 0;
        }

        int right(int at) {
            return at >= 0 && at < size ? rights[at] : 0;
        }

        int heldAt(int at) {
            return at >= 0 && at < size ? helds[at] : 0;
        }

        boolean isWithin(int region, int at) {
            return region >= 0 && region < regions && at >= starts[region] && at < ends[region];
        }

        int caught(int region) {
            return region >= 0 && region < regions ? classes[region] : ANYTHING;
        }

        int handler(int region) {
            return region >= 0 && region < regions ? handlers[region] : NONE;
        }

        int slot(int region) {
            return region >= 0 && region < regions ? slots[region] : 0;
        }
    }

    /**
     * Objects and arrays, as many cells as the document counts: the first one has the thing's type and how many there
     * are, behind it are an object's fields, and, one cell further on, an array's elements. What is reachable moves to
     * the other space when there is no room in the one.
     */
    static final class Heap {
        /** Tells a reference from a number; null is 0. */
        static final long REFERENCE = 1L << 32;
        /** Ahead of it are the exceptions that a run makes, each at its class's number in both spaces. */
        private static final int FIRST = Program.BUILT_IN + 1;
        private static final int TYPE_BITS = 8;
        private static final int TYPE_MASK = (1 << TYPE_BITS) - 1;

        private long[] space;
        private long[] other;
        private int top;
        private int otherTop;
        private int limit;

        Heap() {
            space = new long[FIRST + MOST_CELLS];
            other = new long[FIRST + MOST_CELLS];
            for (int k = 0; k < Program.BUILT_IN; k++) {
                space[k] = 1 << TYPE_BITS | k;
                other[k] = space[k];
            }
            top = FIRST;
        }

        void start(int cells) {
            top = FIRST;
            limit = FIRST + Math.min(cells, MOST_CELLS);
        }

        static boolean isReference(long value) {
            return (value & REFERENCE) != 0;
        }

        boolean hasRoom(long cells) {
            return top + cells <= limit;
        }

        /** Only where there is room. */
        long make(int type, int cells) {
            if (cells <= 0 || cells > space.length - top) {
                return 0;
            }
            Arrays.fill(space, top, top + cells, 0L);
            space[top] = (long) cells << TYPE_BITS | type;
            top += cells;
            return REFERENCE | top - cells;
        }

        /** The cell that has the type and how many there are; 0 of nothing. */
        private long headOf(long reference) {
            int address = (int) reference;
            return isReference(reference) && address >= 0 && address < top ? space[address] : 0;
        }

        /** The class of an object, the type of an array; VOID of nothing. */
        int typeOf(long reference) {
            long head = headOf(reference);
            return head == 0 ? Program.VOID : (int) head & TYPE_MASK;
        }

        /** How many fields or elements it has. */
        int partsOf(long reference) {
            long head = headOf(reference);
            int cells = (int) (head >> TYPE_BITS);
            return Math.max(0, cells - aheadOf(head));
        }

        private static int aheadOf(long head) {
            return (head & TYPE_MASK) >= Program.ARRAY ? 2 : 1;
        }

        long get(long reference, int i) {
            int cell = (int) reference + aheadOf(headOf(reference)) + i;
            return i >= 0 && i < partsOf(reference) && cell >= 0 && cell < top ? space[cell] : 0;
        }

        void put(long reference, int i, long value) {
            int cell = (int) reference + aheadOf(headOf(reference)) + i;
            if (i >= 0 && i < partsOf(reference) && cell >= 0 && cell < top) {
                space[cell] = value;
            }
        }

        // ---- collecting

        void beginCollecting() {
            otherTop = FIRST;
        }

        /** What stands for the value when all is collected: of a reference the place to which its thing moves. */
        long moved(long value) {
            int from = (int) value;
            if ((value & REFERENCE) == 0 || from < FIRST || from >= top) {
                return value;
            }
            // A thing that has moved has its new place, as a negative number, instead of its head.
            if (space[from] < 0) {
                return REFERENCE | -space[from];
            }
            int cells = (int) (space[from] >> TYPE_BITS);
            if (cells <= 0 || cells > top - from || cells > other.length - otherTop) {
                return 0;
            }
            System.arraycopy(space, from, other, otherTop, cells);
            space[from] = -otherTop;
            otherTop += cells;
            return REFERENCE | otherTop - cells;
        }

        void endCollecting() {
            // Heads are no references, so that every cell can be taken alike.
            for (int cell = FIRST; cell < otherTop && cell < other.length; cell++) {
                other[cell] = moved(other[cell]);
            }
            long[] left = space;
            space = other;
            other = left;
            top = otherTop;
        }
    }

    /** Runs the code. Values are longs: numbers and booleans as 32 bits, references as Heap has them. */
    static final class Machine {
        private static final int ENDED = 0, THROWN = 1, NO_FUEL = 2, NO_ROOM = 3, TOO_DEEP = 4, RUNNING = 5;
        private static final int NULL = 1, CAST = 2, ZERO = 3, INDEX = 4, STORE = 5, SIZE = 6;
        private static final int MOST_INPUTS = 200;
        private static final int MOST_OUTPUTS = 400;
        private static final int MOST_OPEN = 100;
        // A frame: this, 30 variables, two slots for each of 20 LASTS, and of an E 60 operands and 20 calls' arguments.
        private static final int STACK = MOST_OPEN * 320;
        /** Far above what 20,000 of FUEL allow: between two of them a run goes only forward in its code. */
        private static final int MOST_STEPS = 400000000;
        /** How a LAST was come into; a jump by its aim instead. */
        private static final int BY_END = -1, BY_THROW = -2, BY_RETURN = -3;
        private static final long NUMBER = 0xFFFFFFFFL;
        /** Where the tally has what: the numbers by which count is asked. */
        private static final int FUEL = 5, OUTPUTS = 6, READS = 7, MADE = 8, CELLS = 9, CALLS = 10, MOST_CALLS = 11;

        private final Code code;
        private final Heap heap;
        private final long[] stack;
        /** Of each open call's caller: the call's instruction, the base and the method. */
        private final int[] frames;
        private final int[] input;
        int inputs;
        private final int[] output;
        private final int[] tally;
        private Program program;
        private Method method;
        private int base;
        private int top;
        private int pc;
        private int next;
        /** An exception that has come up and goes outward, or that nothing caught; 0 without one. */
        private long raised;
        private int open;
        private int end;
        int result;
        int refusals;

        Machine(Code code) {
            this.code = code;
            heap = new Heap();
            stack = new long[STACK];
            frames = new int[3 * MOST_OPEN];
            input = new int[MOST_INPUTS];
            output = new int[MOST_OUTPUTS];
            tally = new int[MOST_CALLS + 1];
        }

        int takeInput(int number) {
            if (inputs >= MOST_INPUTS) {
                return NONE;
            }
            input[inputs] = number;
            inputs++;
            return inputs;
        }

        int printed(int i) {
            return i >= 0 && i < tally[OUTPUTS] && i < MOST_OUTPUTS ? output[i] : 0;
        }

        int told(int what) {
            return what >= FUEL && what <= MOST_CALLS ? tally[what] : NONE;
        }

        int uncaught(int what) {
            Decl decl = raised == 0 || program == null ? null : program.decl(heap.typeOf(raised));
            if (decl == null || what < 0 || what - 2 >= decl.layout.size()) {
                return NONE;
            }
            if (what < 2) {
                return what == 0 ? decl.number : decl.layout.size();
            }
            long value = heap.get(raised, what - 2);
            return Heap.isReference(value) ? 1 : (int) value;
        }

        /** There was no run. */
        void clear() {
            Arrays.fill(tally, 0);
            raised = 0;
            result = 0;
            open = 0;
            method = null;
            base = 0;
            top = 0;
            pc = 0;
        }

        void start(Program runs, int fuel, int cells) {
            clear();
            program = runs;
            tally[FUEL] = fuel;
            heap.start(cells);
            end = RUNNING;
            makeObject(program.find(Text.MAIN_CLASS));
            if (end == RUNNING) {
                callNearest(Text.MAIN_METHOD, 0);
                pc = next;
            }
        }

        int work() {
            for (int n = 0; n < MOST_STEPS && end == RUNNING; n++) {
                next = pc + 1;
                int operation = code.operation(pc);
                if (operation < Code.IS) {
                    step(operation, code.left(pc));
                } else if (operation < Code.RETURN) {
                    stepAmongThings(operation, code.left(pc), code.right(pc));
                } else {
                    stepOut(operation, code.left(pc), code.right(pc));
                }
                if (raised != 0) {
                    goOutward();
                }
                pc = next;
            }
            if (end == RUNNING) {
                refuse();
            }
            return end;
        }

        /** The code is wrong. */
        private void refuse() {
            refusals++;
            end = ENDED;
        }

        /** Numbers, truths and variables. */
        private void step(int operation, int left) {
            switch (operation) {
                case Code.FUEL:
                    burn();
                    break;
                case Code.CONSTANT:
                    push(left & NUMBER);
                    break;
                case Code.LOAD:
                    push(slotAt(left));
                    break;
                case Code.STORE:
                    setSlot(left, pop());
                    break;
                case Code.CLEAR:
                    setSlot(left, 0);
                    break;
                case Code.POP:
                    pop();
                    break;
                case Code.JUMP:
                    next = left;
                    break;
                case Code.JUMP_FALSE:
                    next = pop() == 0 ? left : next;
                    break;
                case Code.SKIP_FALSE:
                case Code.SKIP_TRUE:
                    skip(operation == Code.SKIP_TRUE, left);
                    break;
                case Code.SIGN:
                    sign(left);
                    break;
                case Code.PREFIX:
                    prefix(left, (int) pop());
                    break;
                case Code.READ:
                    readNumber();
                    break;
                case Code.PRINT:
                    print((int) pop());
                    break;
                default:
                    refuse();
                    break;
            }
        }

        /** Objects, arrays and calls. */
        private void stepAmongThings(int operation, int left, int right) {
            switch (operation) {
                case Code.IS:
                case Code.AS:
                    check(operation == Code.AS, left);
                    break;
                case Code.LENGTH:
                    length();
                    break;
                case Code.GET_FIELD:
                    getField(left);
                    break;
                case Code.PUT_FIELD:
                    putField(left);
                    break;
                case Code.GET_ELEMENT:
                    getElement();
                    break;
                case Code.PUT_ELEMENT:
                    putElement();
                    break;
                case Code.MAKE_OBJECT:
                    if (burn()) {
                        makeObject(left);
                    }
                    break;
                case Code.MAKE_ARRAY:
                    makeArray(left, (int) pop());
                    break;
                case Code.CALL:
                    callNearest(left, right);
                    break;
                case Code.CALL_SUPER:
                    callSuper(left, right);
                    break;
                case Code.THROW:
                    throwValue(pop());
                    break;
                default:
                    refuse();
                    break;
            }
        }

        /** The ways out of tries and methods. */
        private void stepOut(int operation, int left, int right) {
            switch (operation) {
                case Code.RETURN:
                    leave(BY_RETURN, 0);
                    break;
                case Code.RETURN_VALUE:
                    leave(BY_RETURN, pop());
                    break;
                case Code.LEAVE:
                    leave(left, 0);
                    break;
                case Code.ENTER_LAST:
                    setSlot(right, BY_END & NUMBER);
                    setSlot(right + 1, 0);
                    next = left;
                    break;
                case Code.END_LAST:
                    goOn((int) slotAt(left), slotAt(left + 1));
                    break;
                default:
                    refuse();
                    break;
            }
        }

        // ---- the stack

        private void push(long value) {
            if (top < 0 || top >= stack.length) {
                refuse();
                return;
            }
            stack[top] = value;
            top++;
        }

        private void pushNumber(int number) {
            push(number & NUMBER);
        }

        private long pop() {
            if (top <= 0 || top > stack.length) {
                refuse();
                return 0;
            }
            top--;
            return stack[top];
        }

        private long slotAt(int slot) {
            int at = base + slot;
            return at >= 0 && at < stack.length ? stack[at] : 0;
        }

        private void setSlot(int slot, long value) {
            int at = base + slot;
            if (at >= 0 && at < stack.length) {
                stack[at] = value;
            }
        }

        // ---- numbers and truths

        private boolean burn() {
            if (tally[FUEL] <= 0) {
                end = NO_FUEL;
                return false;
            }
            tally[FUEL]--;
            return true;
        }

        private void readNumber() {
            int at = tally[READS];
            pushNumber(at >= 0 && at < inputs && at < MOST_INPUTS ? input[at] : 0);
            tally[READS]++;
        }

        private void print(int number) {
            int at = tally[OUTPUTS];
            if (at >= 0 && at < MOST_OUTPUTS) {
                output[at] = number;
                tally[OUTPUTS]++;
            }
        }

        private void skip(boolean onTrue, int aim) {
            long truth = pop();
            if (truth != 0 == onTrue) {
                push(truth);
                next = aim;
            }
        }

        private void prefix(int kind, int number) {
            switch (kind) {
                case Text.MINUS:
                    pushNumber(-number);
                    break;
                case Text.INVERT:
                    pushNumber(~number);
                    break;
                default:
                    pushNumber(number ^ 1);
                    break;
            }
        }

        private void sign(int kind) {
            long second = pop();
            long first = pop();
            int right = (int) second;
            int left = (int) first;
            switch (kind) {
                case Text.SAME:
                    pushTruth(first == second);
                    break;
                case Text.OTHER:
                    pushTruth(first != second);
                    break;
                case Text.LESS:
                    pushTruth(left < right);
                    break;
                case Text.LESS_SAME:
                    pushTruth(left <= right);
                    break;
                case Text.MORE:
                    pushTruth(left > right);
                    break;
                case Text.MORE_SAME:
                    pushTruth(left >= right);
                    break;
                case Text.DIVIDE:
                case Text.REMAINDER:
                    divide(kind == Text.DIVIDE, left, right);
                    break;
                default:
                    pushNumber(combined(kind, left, right));
                    break;
            }
        }

        private void pushTruth(boolean truth) {
            push(truth ? 1 : 0);
        }

        private void divide(boolean wantsQuotient, int left, int right) {
            if (right == 0) {
                raise(ZERO);
            } else {
                pushNumber(wantsQuotient ? left / right : left % right);
            }
        }

        private int combined(int kind, int left, int right) {
            switch (kind) {
                case Text.PLUS:
                    return left + right;
                case Text.MINUS:
                    return left - right;
                case Text.TIMES:
                    return left * right;
                case Text.AND:
                    return left & right;
                case Text.OR:
                    return left | right;
                case Text.XOR:
                    return left ^ right;
                case Text.LEFT:
                    return left << right;
                case Text.RIGHT:
                    return left >> right;
                case Text.FAR_RIGHT:
                    return left >>> right;
                default:
                    refuse();
                    return 0;
            }
        }

        // ---- objects and arrays

        private void raise(int exception) {
            raised = Heap.REFERENCE | exception;
        }

        private void check(boolean casts, int type) {
            long value = pop();
            boolean is = value != 0 && program.fits(heap.typeOf(value), type);
            if (!casts) {
                pushTruth(is);
            } else if (is || value == 0) {
                push(value);
            } else {
                raise(CAST);
            }
        }

        private void length() {
            long array = pop();
            if (array == 0) {
                raise(NULL);
            } else {
                pushNumber(heap.partsOf(array));
            }
        }

        private void getField(int field) {
            long object = pop();
            if (object == 0) {
                raise(NULL);
            } else {
                push(heap.get(object, field));
            }
        }

        private void putField(int field) {
            long value = pop();
            long object = pop();
            if (object == 0) {
                raise(NULL);
            } else {
                heap.put(object, field, value);
            }
        }

        private void getElement() {
            int index = (int) pop();
            long array = pop();
            if (hasElement(array, index)) {
                push(heap.get(array, index));
            }
        }

        private void putElement() {
            long value = pop();
            int index = (int) pop();
            long array = pop();
            if (!hasElement(array, index)) {
                return;
            }
            int wanted = heap.typeOf(array) - Program.ARRAY;
            if (Heap.isReference(value) && !program.fits(heap.typeOf(value), wanted)) {
                raise(STORE);
            } else {
                heap.put(array, index, value);
            }
        }

        private boolean hasElement(long array, int index) {
            if (array == 0) {
                raise(NULL);
                return false;
            }
            if (index < 0 || index >= heap.partsOf(array)) {
                raise(INDEX);
                return false;
            }
            return true;
        }

        private void makeObject(int type) {
            Decl decl = program.decl(type);
            if (decl == null) {
                refuse();
            } else {
                make(type, decl.cells());
            }
        }

        private void makeArray(int type, int size) {
            if (!burn()) {
                return;
            }
            if (size < 0) {
                raise(SIZE);
            } else {
                make(type, 2L + size);
            }
        }

        private void make(int type, long cells) {
            if (!heap.hasRoom(cells)) {
                collect();
            }
            if (!heap.hasRoom(cells)) {
                end = NO_ROOM;
                return;
            }
            push(heap.make(type, (int) cells));
            tally[MADE]++;
            tally[CELLS] += (int) cells;
        }

        /** Of a frame's slots only those of variables in scope are held; behind all slots stand the operands. */
        private void collect() {
            heap.beginCollecting();
            int first = base;
            int frameEnd = top;
            int at = pc;
            Method running = method;
            for (int call = open - 1; call >= 0 && running != null; call--) {
                int heldEnd = first + code.heldAt(at);
                int slotsEnd = first + running.slots;
                for (int i = Math.max(first, 0); i < frameEnd && i < stack.length; i++) {
                    stack[i] = i < heldEnd || i >= slotsEnd ? heap.moved(stack[i]) : 0;
                }
                frameEnd = first;
                at = frames[3 * call];
                first = frames[3 * call + 1];
                running = program.method(frames[3 * call + 2]);
            }
            heap.endCollecting();
        }

        // ---- calls

        private void callNearest(int name, int arguments) {
            int receiver = top - arguments - 1;
            if (receiver < 0) {
                refuse();
                return;
            }
            if (!burn()) {
                return;
            }
            if (stack[receiver] == 0) {
                raise(NULL);
                return;
            }
            Decl decl = program.decl(heap.typeOf(stack[receiver]));
            begin(decl == null ? null : decl.nearest(name), receiver);
        }

        private void callSuper(int number, int arguments) {
            if (burn()) {
                begin(program.method(number), top - arguments - 1);
            }
        }

        /** The object and the arguments on the stack become the first slots of the call. */
        private void begin(Method called, int receiver) {
            if (open >= MOST_OPEN) {
                end = TOO_DEEP;
                return;
            }
            if (called == null || receiver < 0 || receiver + called.slots > stack.length) {
                refuse();
                return;
            }
            frames[3 * open] = pc;
            frames[3 * open + 1] = base;
            frames[3 * open + 2] = method == null ? NONE : method.number;
            open++;
            tally[CALLS]++;
            tally[MOST_CALLS] = Math.max(tally[MOST_CALLS], open);
            method = called;
            base = receiver;
            top = base + called.slots;
            next = called.entry;
        }

        /** Back to the caller, at the call. */
        private void close() {
            open--;
            top = base;
            if (open >= 0 && open < MOST_OPEN) {
                pc = frames[3 * open];
                base = frames[3 * open + 1];
                method = program.method(frames[3 * open + 2]);
            }
        }

        private void giveBack(long value) {
            boolean hasResult = method != null && method.result != Program.VOID;
            if (open <= 1) {
                result = (int) value;
                end = ENDED;
                return;
            }
            close();
            next = pc + 1;
            if (hasResult) {
                push(value);
            }
        }

        // ---- ways outward

        private void throwValue(long value) {
            if (value == 0) {
                raise(NULL);
            } else if (heap.typeOf(value) >= Program.ARRAY) {
                raise(CAST);
            } else {
                raised = value;
            }
        }

        private void goOutward() {
            for (int n = 0; n < MOST_OPEN && method != null; n++) {
                int region = handlerOf(heap.typeOf(raised));
                if (region != NONE) {
                    land(region, BY_THROW, raised);
                    raised = 0;
                    return;
                }
                if (open <= 1) {
                    end = THROWN;
                    return;
                }
                close();
            }
            refuse();
        }

        /** The regions stand in the order in which they are asked: the innermost first. */
        private int handlerOf(int type) {
            for (int region = method.firstRegion; region < method.regionsEnd; region++) {
                int caught = code.caught(region);
                if (code.isWithin(region, pc) && (caught == Code.ANYTHING || program.fits(type, caught))) {
                    return region;
                }
            }
            return NONE;
        }

        private void land(int region, int way, long value) {
            top = base + method.slots;
            next = code.handler(region);
            int slot = code.slot(region);
            if (code.caught(region) == Code.ANYTHING) {
                setSlot(slot, way & NUMBER);
                setSlot(slot + 1, value);
            } else {
                setSlot(slot, value);
            }
        }

        /** A return or a jump: by way of the first LAST that it leaves. */
        private void leave(int way, long value) {
            if (method == null) {
                refuse();
                return;
            }
            for (int region = method.firstRegion; region < method.regionsEnd; region++) {
                boolean leaves = code.isWithin(region, pc) && (way < 0 || !code.isWithin(region, way));
                if (leaves && code.caught(region) == Code.ANYTHING) {
                    land(region, way, value);
                    return;
                }
            }
            if (way >= 0) {
                next = way;
            } else {
                giveBack(value);
            }
        }

        /** Behind a LAST: on the way that led into it. */
        private void goOn(int way, long value) {
            if (way == BY_THROW) {
                raised = value;
            } else if (way != BY_END) {
                leave(way, value);
            }
        }
    }
}
