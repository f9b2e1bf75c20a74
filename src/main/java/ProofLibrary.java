import java.util.Arrays;

/** A library of statements and proofs, read from texts; DOC.md says what each call answers. */
public final class ProofLibrary {
    public static final int NONE = -1;
    public static final int FULL = -2;

    private static final int TAPE_LENGTH = 60000;
    private static final int FED = 20;
    private static final int NAME_LENGTH = 60;
    private static final int ALL_NAMES = 30000;
    private static final int SYMBOLS = 1000;
    private static final int STATEMENTS = 1500;
    private static final int NAMES = SYMBOLS + STATEMENTS;
    private static final int STATEMENT_LENGTH = 300;
    private static final int ALL_STATEMENTS = 30000;
    private static final int FIRST_SYMBOLS = 100;
    private static final int SCOPES = 50;
    private static final int ACTIVE_PAIRS = 1000;
    private static final int FRAME_HYPOTHESES = 60;
    private static final int ALL_HYPOTHESES = FRAME_HYPOTHESES * STATEMENTS;
    private static final int FRAME_PAIRS = 20000;
    private static final int STEPS = 20000;
    private static final int LISTED = 300;
    private static final int SAVED = 300;
    private static final int NUMBER = 1000000;
    private static final int PILE_ROWS = 200;
    private static final int ROW_LENGTH = 1000;
    private static final int PILE_LENGTH = 40000;
    private static final int PRINT_LENGTH = 24000;
    private static final int UNPACKED = 4000;
    private static final int TREE_LENGTH = 60;
    private static final int WITHOUT_LENGTH = 600;
    private static final int LATEST = 4;
    private static final long SIZE = 1000000000000000000L;

    /* A sort over each of 99 others, above each of some 120 places in a row of 59 symbols. */
    private static final int NODES = 12000;
    private static final int SPANS = TREE_LENGTH * (TREE_LENGTH - 1) / 2;
    /* Far above what any loop can need whose turns nothing else counts. */
    private static final int TURNS = 1000000;

    private static final int FLOATING = 0;
    private static final int ESSENTIAL = 1;
    private static final int AXIOM = 2;
    private static final int THEOREM = 3;
    private static final int OPEN = 4;

    private static final int FAULT_CHAR = 1;
    private static final int FAULT_COMMENT = 2;
    private static final int FAULT_TOKEN = 3;
    private static final int FAULT_ORDER = 4;
    private static final int FAULT_FULL = 5;
    private static final int FAULT_LABEL = 6;
    private static final int FAULT_TWICE = 7;
    private static final int FAULT_SCOPE = 8;
    private static final int FAULT_UNKNOWN = 9;
    private static final int FAULT_KIND = 10;
    private static final int FAULT_UNTYPED = 11;
    private static final int FAULT_TYPE = 12;
    private static final int FAULT_STEP = 13;
    private static final int FAULT_PACKED = 14;
    private static final int FAULT_FEW = 15;
    private static final int FAULT_MATCH = 16;
    private static final int FAULT_MEET = 17;
    private static final int FAULT_END = 18;
    private static final int FAULT_RESULT = 19;

    private static final char[] PROVABLE_NAME = {'|', '-'};
    private static final char[] WFF_NAME = {'w', 'f', 'f'};

    private final char[] tape = new char[TAPE_LENGTH];
    private int tapeLength;
    private boolean canEnd;
    private int faultPlace = NONE;
    private final int[] asked = new int[TREE_LENGTH];
    private final Library library = new Library();
    private final Scopes scopes = new Scopes(library);
    private final Assertions assertions = new Assertions(library, scopes);
    private final Pile pile = new Pile(library, assertions, scopes);
    private final Reader reader = new Reader(library, assertions, scopes, new Steps(library, assertions, scopes, pile));
    private final Packer packer = new Packer(library, assertions);
    private final Rules rules = new Rules(library, assertions);
    private final Chart chart = new Chart(library, rules);
    private final Tree tree = new Tree(library, assertions, chart);
    private final Definitions definitions = new Definitions(library, assertions, rules, chart, tree, pile);
    private final Paper paper = new Paper(library);

    /** Nothing read. */
    public ProofLibrary() {
    }

    /** Puts twenty characters behind the tape. */
    public int feed(int a, int b, int c, int d, int e) {
        canEnd = tapeLength + FED <= TAPE_LENGTH;
        if (!canEnd) {
            return FULL;
        }
        putFour(a);
        putFour(b);
        putFour(c);
        putFour(d);
        putFour(e);
        return tapeLength;
    }

    private void putFour(int n) {
        for (int shift = 24; shift >= 0; shift -= 8) {
            tape[tapeLength] = (char) (n >> shift & 255);
            tapeLength++;
        }
    }

    /** Cuts the tape so that n of the characters that were fed last stay. */
    public int end(int n) {
        if (!canEnd || n < 0 || n >= FED) {
            return NONE;
        }
        canEnd = false;
        tapeLength -= FED - n;
        return tapeLength;
    }

    /** Reads the tape: 0, or the fault. */
    public int read() {
        int fault = reader.readText(tape, tapeLength);
        faultPlace = fault == 0 ? NONE : reader.place;
        useTape();
        return fault;
    }

    private void useTape() {
        tapeLength = 0;
        canEnd = false;
    }

    /** The place of the latest read's fault. */
    public int place() {
        return faultPlace;
    }

    /** How many there are of a sort of things. */
    public int count(int what) {
        switch (what) {
            case 0:
                return library.statements;
            case 1:
                return library.symbols;
            case 2:
                return library.constants();
            case 3:
                return library.ofKind(FLOATING);
            case 4:
                return library.ofKind(ESSENTIAL);
            case 5:
                return library.ofKind(AXIOM);
            case 6:
                return library.ofKind(THEOREM) + library.ofKind(OPEN);
            case 7:
                return library.ofKind(OPEN);
            case 8:
                return assertions.steps;
            case 9:
                return assertions.pairs;
            default:
                return NONE;
        }
    }

    /** A statement's kind. */
    public int kind(int i) {
        return library.isStatement(i) ? library.kind[i] : NONE;
    }

    /** How many symbols a statement has. */
    public int length(int i) {
        return library.isStatement(i) ? library.lengthOf(i) : NONE;
    }

    /** Symbol k of a statement. */
    public int symbol(int i, int k) {
        if (!library.isStatement(i) || k < 0 || k >= library.lengthOf(i)) {
            return NONE;
        }
        return library.text[library.at[i] + k];
    }

    /** Whether a symbol is, or was, a variable. */
    public int variable(int s) {
        if (!library.isSymbol(s)) {
            return NONE;
        }
        return library.variable[s] ? 1 : 0;
    }

    /** The statement or symbol whose name is the tape's one token. */
    public int find(int what) {
        int length = tapeLength;
        useTape();
        int from = skipBlanks(tape, 0, length);
        int end = tokenEnd(tape, from, length);
        if (end == from || skipBlanks(tape, end, length) < length) {
            return NONE;
        }
        if (what == 0) {
            return library.statementNamed(tape, from, end - from);
        }
        return what == 1 ? library.symbolNamed(tape, from, end - from) : NONE;
    }

    /** How large an assertion's frame is, and how many others it rests on. */
    public int frame(int i, int what) {
        if (!library.isAssertion(i)) {
            return NONE;
        }
        switch (what) {
            case 0:
                return assertions.frameSize[i];
            case 1:
                return assertions.pairSize[i];
            case 2:
                return library.kind[i] == OPEN ? NONE : assertions.restCount(i);
            default:
                return NONE;
        }
    }

    /** Mandatory hypothesis k of an assertion. */
    public int hypothesis(int i, int k) {
        if (!library.isAssertion(i) || k < 0 || k >= assertions.frameSize[i]) {
            return NONE;
        }
        return assertions.hypotheses[assertions.frameAt[i] + k];
    }

    /** Whether two symbols are a pair in an assertion's frame. */
    public int apart(int i, int s, int t) {
        if (!library.isAssertion(i)) {
            return NONE;
        }
        return assertions.isPair(i, s, t) ? 1 : 0;
    }

    /** How many rows a theorem's proof has. */
    public int rows(int i) {
        return library.isProved(i) ? assertions.rowCount[i] : NONE;
    }

    private boolean isRow(int i, int k) {
        return library.isProved(i) && k >= 0 && k < assertions.rowCount[i];
    }

    /** The statement that made row k of a proof. */
    public int row(int i, int k) {
        return isRow(i, k) ? assertions.rowStatement[assertions.rowAt[i] + k] : NONE;
    }

    /** The row that belonged to mandatory hypothesis h where row k was made. */
    public int from(int i, int k, int h) {
        if (!isRow(i, k)) {
            return NONE;
        }
        int row = assertions.rowAt[i] + k;
        if (h < 0 || h >= assertions.childCount(row)) {
            return NONE;
        }
        return assertions.children[assertions.childAt[row] + h];
    }

    /** Whether theorem i rests on assertion k. */
    public int rests(int i, int k) {
        if (!library.isProved(i) || !library.isAssertion(k)) {
            return NONE;
        }
        return assertions.restsOn(i, k) ? 1 : 0;
    }

    /** How many labels a proof has in full. */
    public long size(int i) {
        if (!library.isProved(i)) {
            return NONE;
        }
        long labels = assertions.labelsOf(i);
        return labels > SIZE ? FULL : labels;
    }

    /** Prints one of the things that can be told: how many characters. */
    public int print(int what, int i, int k) {
        if (what == 1) {
            return printSymbol(i);
        }
        if (!library.isStatement(i)) {
            return NONE;
        }
        switch (what) {
            case 0:
                paper.begin();
                paper.putName(library.labelName[i]);
                return paper.finish();
            case 2:
                return printStatement(i);
            case 3:
                return printRow(i, k);
            case 4:
                return printPacked(i);
            case 5:
                return printUnpacked(i);
            case 6:
                return printTree(i);
            case 7:
                return printWithout(i);
            default:
                return NONE;
        }
    }

    private int printSymbol(int s) {
        if (!library.isSymbol(s)) {
            return NONE;
        }
        paper.begin();
        paper.putSymbol(s);
        return paper.finish();
    }

    private int printStatement(int i) {
        paper.begin();
        for (int p = library.at[i]; p < library.at[i + 1]; p++) {
            paper.putSymbol(library.text[p]);
        }
        return paper.finish();
    }

    private int printRow(int i, int k) {
        if (!isRow(i, k) || !pile.goAgain(i, k)) {
            return NONE;
        }
        paper.begin();
        paper.putSymbols(pile.data, pile.at[k], pile.at[k] + pile.size[k]);
        return paper.finish();
    }

    private int printPacked(int i) {
        if (!library.isProved(i)) {
            return NONE;
        }
        packer.pack(i);
        paper.begin();
        paper.putToken('(');
        for (int n = 0; n < packer.listedCount; n++) {
            paper.putName(library.labelName[packer.listed[n]]);
        }
        paper.putToken(')');
        paper.putBlank();
        for (int n = 0; n < packer.toldCount; n++) {
            paper.putNumber(packer.numberOf(n));
            if (packer.saves(n)) {
                paper.put('Z');
            }
        }
        return paper.finish();
    }

    private int printUnpacked(int i) {
        if (!library.isProved(i)) {
            return NONE;
        }
        if (assertions.labelsOf(i) > UNPACKED) {
            return FULL;
        }
        packer.unpack(i);
        paper.begin();
        for (int n = 0; n < packer.toldCount; n++) {
            paper.putName(library.labelName[packer.statementOf(n)]);
        }
        return paper.finish();
    }

    private int printTree(int i) {
        int trees = treesOf(i);
        if (trees != 1) {
            return trees == FULL ? FULL : NONE;
        }
        tree.grow();
        paper.begin();
        for (int n = tree.size - 1; n >= 0; n--) {
            paper.putName(library.labelName[tree.rule[n]]);
        }
        return paper.finish();
    }

    private int printWithout(int i) {
        if (library.lengthOf(i) > TREE_LENGTH) {
            return FULL;
        }
        rules.learn();
        definitions.study(i);
        definitions.prepare(i);
        if (treesOf(i) != 1) {
            return NONE;
        }
        tree.grow();
        if (!definitions.evaluate(0, tree.size, i)) {
            return FULL;
        }
        paper.begin();
        paper.putSymbol(library.text[library.at[i]]);
        paper.putSymbols(pile.data, pile.at[0], pile.at[0] + pile.size[0]);
        return paper.finish();
    }

    /** Character k of what was printed latest. */
    public int character(int k) {
        return paper.shown(k);
    }

    /** How many trees a statement has, 2 for more. */
    public int trees(int i) {
        return library.isStatement(i) ? treesOf(i) : NONE;
    }

    private int treesOf(int i) {
        if (library.lengthOf(i) > TREE_LENGTH) {
            return FULL;
        }
        rules.learn();
        chart.takeStatement(i);
        return chart.countTrees();
    }

    /** Makes an axiom an equality, or none: how many there are. */
    public int equate(int i) {
        rules.learn();
        if (!library.isStatement(i) || !rules.isRule(i) || assertions.frameSize[i] != 2) {
            return NONE;
        }
        return definitions.turn(i);
    }

    /** The rule that statement i defines. */
    public int definition(int i) {
        if (!library.isStatement(i) || library.kind[i] != AXIOM) {
            return NONE;
        }
        if (library.lengthOf(i) > TREE_LENGTH) {
            return FULL;
        }
        rules.learn();
        definitions.study(i + 1);
        return definitions.definedRule(i);
    }

    /** Applies assertion i backwards to the tape's row. */
    public int apply(int i) {
        int size = takeRow();
        if (!library.isAssertion(i) || size <= 0) {
            return NONE;
        }
        if (size > TREE_LENGTH || library.lengthOf(i) > TREE_LENGTH) {
            return FULL;
        }
        if (asked[0] != library.typeOf(i) || treesOf(i) != 1) {
            return NONE;
        }
        tree.grow();
        tree.keepPattern();
        chart.takeRow(asked, size);
        if (chart.countTrees() != 1) {
            return NONE;
        }
        tree.grow();
        if (!tree.fitsPattern() || !tree.bindsEssentials(i)) {
            return NONE;
        }
        return printEssentials(i);
    }

    /** How many symbols the tape's row has, NONE where a token is no symbol; the first sixty are kept. */
    private int takeRow() {
        int length = tapeLength;
        useTape();
        int size = 0;
        int at = skipBlanks(tape, 0, length);
        for (int turn = 0; turn < length && at < length; turn++) {
            int end = tokenEnd(tape, at, length);
            int s = end == at ? NONE : library.symbolNamed(tape, at, end - at);
            if (s == NONE) {
                return NONE;
            }
            if (size < TREE_LENGTH) {
                asked[size] = s;
            }
            size++;
            at = skipBlanks(tape, end, length);
        }
        return size;
    }

    private int printEssentials(int i) {
        int essentials = 0;
        paper.begin();
        int frameAt = assertions.frameAt[i];
        for (int h = frameAt; h < frameAt + assertions.frameSize[i]; h++) {
            int e = assertions.hypotheses[h];
            if (library.kind[e] != ESSENTIAL) {
                continue;
            }
            if (essentials > 0) {
                paper.putToken(',');
            }
            essentials++;
            printBound(e);
        }
        int printed = paper.finish();
        return printed == FULL ? FULL : essentials;
    }

    private void printBound(int e) {
        for (int p = library.at[e]; p < library.at[e + 1]; p++) {
            int s = library.text[p];
            if (library.floats[p] == NONE) {
                paper.putSymbol(s);
            } else {
                paper.putSymbols(chart.row, tree.spanFrom[s], tree.spanTo[s]);
            }
        }
    }

    /** Whether all that is kept agrees with itself. */
    public int check() {
        for (int i = 0; i < library.statements; i++) {
            if (library.kind[i] == THEOREM && !isSound(i)) {
                return 0;
            }
        }
        for (int i = Math.max(0, library.statements - LATEST); i < library.statements; i++) {
            if (treesOf(i) == 1 && !makesItsSymbols(i)) {
                return 0;
            }
        }
        return 1;
    }

    private boolean isSound(int i) {
        int last = assertions.rowCount[i] - 1;
        if (!pile.goAgain(i, last) || !pile.isStatement(last, i)) {
            return false;
        }
        if (assertions.labelsOf(i) <= UNPACKED && !packer.comesBack(i)) {
            return false;
        }
        return assertions.restsOnEarlier(i);
    }

    private boolean makesItsSymbols(int i) {
        tree.grow();
        if (!definitions.evaluate(0, tree.size, 0) || pile.size[0] != library.lengthOf(i) - 1) {
            return false;
        }
        for (int k = 0; k < pile.size[0]; k++) {
            if (pile.data[pile.at[0] + k] != library.text[library.at[i] + 1 + k]) {
                return false;
            }
        }
        return true;
    }

    private static boolean isBlank(int c) {
        return c == 32 || c == 9 || c == 10 || c == 12 || c == 13;
    }

    private static boolean isVisible(int c) {
        return c >= 33 && c <= 126;
    }

    private static boolean isLabelCharacter(int c) {
        boolean letter = c >= 'a' && c <= 'z' || c >= 'A' && c <= 'Z';
        return letter || c >= '0' && c <= '9' || c == '.' || c == '-' || c == '_';
    }

    private static int skipBlanks(char[] source, int from, int length) {
        int at = from;
        while (at < length && isBlank(source[at])) {
            at++;
        }
        return at;
    }

    private static int tokenEnd(char[] source, int from, int length) {
        int at = from;
        while (at < length && isVisible(source[at])) {
            at++;
        }
        return at;
    }

    private static boolean isLabel(char[] source, int from, int size) {
        for (int k = 0; k < size; k++) {
            if (!isLabelCharacter(source[from + k])) {
                return false;
            }
        }
        return true;
    }

    /** Names, symbols and labelled statements. */
    static final class Library {
        private static final int BUCKETS = 4096;

        private final char[] letters = new char[ALL_NAMES];
        private final int[] nameAt = new int[NAMES + 1];
        /* A statement's number, or a symbol's complement. */
        private final int[] meaning = new int[NAMES];
        /* Chains of names: a name's number and one more, 0 ends them. */
        private final int[] nextName = new int[NAMES];
        private final int[] heads = new int[BUCKETS];
        private int names;

        private final int[] symbolName = new int[SYMBOLS];
        private final boolean[] variable = new boolean[SYMBOLS];
        private final int[] firstFloat = new int[SYMBOLS];
        /* First symbols of statements have ranks, for what is kept of each sort. */
        private final int[] rank = new int[SYMBOLS];
        private final int[] ranked = new int[FIRST_SYMBOLS];
        private int ranks;
        private int symbols;

        private final int[] labelName = new int[STATEMENTS];
        private final int[] kind = new int[STATEMENTS];
        private final int[] at = new int[STATEMENTS + 1];
        private final int[] text = new int[ALL_STATEMENTS];
        /* Of each variable in the text the floating hypothesis that was active for it. */
        private final int[] floats = new int[ALL_STATEMENTS];
        private int used;
        private int statements;
        private final int[] kept = new int[5];

        private static int bucket(char[] source, int from, int size) {
            int h = 0;
            for (int k = 0; k < size; k++) {
                h = h * 31 + source[from + k];
            }
            return (h ^ h >>> 12) & BUCKETS - 1;
        }

        int nameOf(char[] source, int from, int size) {
            int name = heads[bucket(source, from, size)];
            for (int turn = 0; turn < NAMES && name > 0; turn++) {
                if (isName(name - 1, source, from, size)) {
                    return name - 1;
                }
                name = nextName[name - 1];
            }
            return NONE;
        }

        private boolean isName(int name, char[] source, int from, int size) {
            int start = nameAt[name];
            if (nameAt[name + 1] - start != size) {
                return false;
            }
            for (int k = 0; k < size; k++) {
                if (letters[start + k] != source[from + k]) {
                    return false;
                }
            }
            return true;
        }

        int statementOf(int name) {
            return name == NONE ? NONE : Math.max(NONE, meaning[name]);
        }

        int symbolOf(int name) {
            return name == NONE ? NONE : Math.max(NONE, ~meaning[name]);
        }

        int statementNamed(char[] source, int from, int size) {
            return statementOf(nameOf(source, from, size));
        }

        int symbolNamed(char[] source, int from, int size) {
            return symbolOf(nameOf(source, from, size));
        }

        boolean hasRoomForName(int size) {
            return size <= NAME_LENGTH && nameAt[names] + size <= ALL_NAMES && names < NAMES;
        }

        private void addName(char[] source, int from, int size, int means) {
            int start = nameAt[names];
            for (int k = 0; k < size; k++) {
                letters[start + k] = source[from + k];
            }
            int bucket = bucket(source, from, size);
            meaning[names] = means;
            nextName[names] = heads[bucket];
            names++;
            nameAt[names] = start + size;
            heads[bucket] = names;
        }

        int addSymbol(char[] source, int from, int size, boolean isVariable) {
            symbolName[symbols] = names;
            addName(source, from, size, ~symbols);
            variable[symbols] = isVariable;
            firstFloat[symbols] = NONE;
            rank[symbols] = NONE;
            symbols++;
            return symbols - 1;
        }

        /** The label of the statement that comes next. */
        void addLabel(char[] source, int from, int size) {
            labelName[statements] = names;
            addName(source, from, size, statements);
        }

        void append(int s, int floating) {
            text[used] = s;
            floats[used] = floating;
            used++;
            at[statements + 1] = used;
        }

        void giveRank(int s) {
            if (rank[s] == NONE) {
                ranked[ranks] = s;
                rank[s] = ranks;
                ranks++;
            }
        }

        void add(int kindOf) {
            kind[statements] = kindOf;
            if (kindOf == FLOATING && firstFloat[variableOf(statements)] == NONE) {
                firstFloat[variableOf(statements)] = statements;
            }
            statements++;
        }

        /** The variable of a floating hypothesis. */
        int variableOf(int i) {
            return text[at[i] + 1];
        }

        /** The type of a floating hypothesis, the first symbol of any statement. */
        int typeOf(int i) {
            return text[at[i]];
        }

        int lengthOf(int i) {
            return at[i + 1] - at[i];
        }

        boolean isStatement(int i) {
            return i >= 0 && i < statements;
        }

        boolean isAssertion(int i) {
            return isStatement(i) && kind[i] >= AXIOM;
        }

        boolean isProved(int i) {
            return isStatement(i) && kind[i] == THEOREM;
        }

        boolean isSymbol(int s) {
            return s >= 0 && s < symbols;
        }

        int constants() {
            int n = 0;
            for (int s = 0; s < symbols; s++) {
                n += variable[s] ? 0 : 1;
            }
            return n;
        }

        int ofKind(int wanted) {
            int n = 0;
            for (int i = 0; i < statements; i++) {
                n += kind[i] == wanted ? 1 : 0;
            }
            return n;
        }

        void keep() {
            kept[0] = statements;
            kept[1] = symbols;
            kept[2] = names;
            kept[3] = ranks;
            kept[4] = used;
        }

        void goBack() {
            for (int i = kept[0]; i < statements; i++) {
                if (kind[i] == FLOATING && firstFloat[variableOf(i)] == i) {
                    firstFloat[variableOf(i)] = NONE;
                }
            }
            for (int r = kept[3]; r < ranks; r++) {
                rank[ranked[r]] = NONE;
            }
            /* The latest name is the head of its chain, so they go in that order. */
            for (int n = names - 1; n >= kept[2]; n--) {
                heads[bucket(letters, nameAt[n], nameAt[n + 1] - nameAt[n])] = nextName[n];
            }
            statements = kept[0];
            symbols = kept[1];
            names = kept[2];
            ranks = kept[3];
            used = kept[4];
        }
    }

    /** What is active where the reading stands. */
    static final class Scopes {
        private static final int WORDS = (SYMBOLS + 63) / 64;
        private static final int MARKS = 3;

        private final Library library;
        private final boolean[] active = new boolean[SYMBOLS];
        private final int[] activeFloat = new int[SYMBOLS];
        private final int[] variables = new int[SYMBOLS];
        private int variableCount;
        private final boolean[] holds = new boolean[STATEMENTS];
        private final int[] hypotheses = new int[STATEMENTS];
        private int hypothesisCount;
        private final int[] pairX = new int[ACTIVE_PAIRS];
        private final int[] pairY = new int[ACTIVE_PAIRS];
        private int pairCount;
        private final long[] apartBits = new long[SYMBOLS * WORDS];
        /* What was active where each open scope began; first where the text began. */
        private final int[] marks = new int[MARKS * (SCOPES + 1)];
        private int depth;
        /* Marks of the variables in the frame that is made: the turn in which they were met. */
        private final int[] met = new int[SYMBOLS];
        private int turn;

        Scopes(Library library) {
            this.library = library;
            Arrays.fill(activeFloat, NONE);
        }

        void keep() {
            depth = 0;
            mark();
        }

        void goBack() {
            depth = 0;
            cut();
        }

        void open() {
            depth++;
            mark();
        }

        void close() {
            cut();
            depth--;
        }

        private void mark() {
            marks[MARKS * depth] = variableCount;
            marks[MARKS * depth + 1] = hypothesisCount;
            marks[MARKS * depth + 2] = pairCount;
        }

        private void cut() {
            for (int n = marks[MARKS * depth + 2]; n < pairCount; n++) {
                turnPair(pairX[n], pairY[n]);
            }
            pairCount = marks[MARKS * depth + 2];
            for (int n = marks[MARKS * depth + 1]; n < hypothesisCount; n++) {
                holds[hypotheses[n]] = false;
                if (library.kind[hypotheses[n]] == FLOATING) {
                    activeFloat[library.variableOf(hypotheses[n])] = NONE;
                }
            }
            hypothesisCount = marks[MARKS * depth + 1];
            for (int n = marks[MARKS * depth]; n < variableCount; n++) {
                active[variables[n]] = false;
            }
            variableCount = marks[MARKS * depth];
        }

        void addVariable(int s) {
            active[s] = true;
            variables[variableCount] = s;
            variableCount++;
        }

        void addHypothesis(int i) {
            holds[i] = true;
            hypotheses[hypothesisCount] = i;
            hypothesisCount++;
            if (library.kind[i] == FLOATING) {
                activeFloat[library.variableOf(i)] = i;
            }
        }

        void addPair(int x, int y) {
            pairX[pairCount] = x;
            pairY[pairCount] = y;
            pairCount++;
            turnPair(x, y);
        }

        private void turnPair(int x, int y) {
            apartBits[x * WORDS + (y >> 6)] ^= 1L << (y & 63);
            apartBits[y * WORDS + (x >> 6)] ^= 1L << (x & 63);
        }

        boolean areApart(int x, int y) {
            return (apartBits[x * WORDS + (y >> 6)] >>> (y & 63) & 1) != 0;
        }

        /** Marks the variables of an assertion and of the active essential hypotheses. */
        void markFrame(int i) {
            turn++;
            markVariables(i);
            for (int n = 0; n < hypothesisCount; n++) {
                if (library.kind[hypotheses[n]] == ESSENTIAL) {
                    markVariables(hypotheses[n]);
                }
            }
        }

        private void markVariables(int i) {
            for (int p = library.at[i]; p < library.at[i + 1]; p++) {
                if (library.floats[p] != NONE) {
                    met[library.text[p]] = turn;
                }
            }
        }

        boolean isInFrame(int s) {
            return met[s] == turn;
        }

        /** Whether a symbol is a constant or an active variable. */
        boolean isKnown(int s) {
            return s != NONE && (!library.variable[s] || active[s]);
        }
    }

    /** What is kept of axioms and theorems: frames, rows of proofs, what rests on what. */
    static final class Assertions {
        private static final int WORDS = (STATEMENTS + 63) / 64;

        private final Library library;
        private final Scopes scopes;
        private final int[] frameAt = new int[STATEMENTS];
        private final int[] frameSize = new int[STATEMENTS];
        private final int[] hypotheses = new int[ALL_HYPOTHESES];
        private int hypothesesUsed;
        private final int[] pairAt = new int[STATEMENTS];
        private final int[] pairSize = new int[STATEMENTS];
        /* The two symbols of a pair: one times SYMBOLS, and the other. */
        private final int[] pair = new int[FRAME_PAIRS];
        private int pairs;

        private final int[] rowAt = new int[STATEMENTS];
        private final int[] rowCount = new int[STATEMENTS];
        private final int[] rowStatement = new int[STEPS];
        private final int[] childAt = new int[STEPS + 1];
        private final int[] children = new int[STEPS];
        private int rowsUsed;
        private int steps;
        private final long[] rowLabels = new long[STEPS];
        private final long[] rests = new long[STATEMENTS * WORDS];
        private final int[] kept = new int[4];

        Assertions(Library library, Scopes scopes) {
            this.library = library;
            this.scopes = scopes;
        }

        void keep() {
            kept[0] = hypothesesUsed;
            kept[1] = pairs;
            kept[2] = rowsUsed;
            kept[3] = steps;
        }

        void goBack() {
            hypothesesUsed = kept[0];
            pairs = kept[1];
            rowsUsed = kept[2];
            steps = kept[3];
        }

        /** The frame of the assertion that is being read; false when it would be more than may be. */
        boolean makeFrame(int i) {
            scopes.markFrame(i);
            for (int w = 0; w < WORDS; w++) {
                rests[i * WORDS + w] = 0;
            }
            return takeHypotheses(i) && takePairs(i);
        }

        private boolean takeHypotheses(int i) {
            frameAt[i] = hypothesesUsed;
            frameSize[i] = 0;
            for (int n = 0; n < scopes.hypothesisCount; n++) {
                int h = scopes.hypotheses[n];
                if (library.kind[h] == FLOATING && !scopes.isInFrame(library.variableOf(h))) {
                    continue;
                }
                if (frameSize[i] == FRAME_HYPOTHESES) {
                    return false;
                }
                hypotheses[hypothesesUsed] = h;
                hypothesesUsed++;
                frameSize[i]++;
            }
            return true;
        }

        private boolean takePairs(int i) {
            pairAt[i] = pairs;
            pairSize[i] = 0;
            for (int n = 0; n < scopes.pairCount; n++) {
                int x = scopes.pairX[n];
                int y = scopes.pairY[n];
                if (!scopes.isInFrame(x) || !scopes.isInFrame(y)) {
                    continue;
                }
                if (pairs == FRAME_PAIRS) {
                    return false;
                }
                pair[pairs] = x * SYMBOLS + y;
                pairs++;
                pairSize[i]++;
            }
            return true;
        }

        /** Which mandatory hypothesis of assertion i a hypothesis is. */
        int placeInFrame(int i, int h) {
            for (int k = 0; k < frameSize[i]; k++) {
                if (hypotheses[frameAt[i] + k] == h) {
                    return k;
                }
            }
            return NONE;
        }

        boolean hasEssential(int i) {
            for (int k = 0; k < frameSize[i]; k++) {
                if (library.kind[hypotheses[frameAt[i] + k]] == ESSENTIAL) {
                    return true;
                }
            }
            return false;
        }

        boolean isPair(int i, int s, int t) {
            for (int n = pairAt[i]; n < pairAt[i] + pairSize[i]; n++) {
                int x = firstOf(n);
                int y = secondOf(n);
                if (x == s && y == t || x == t && y == s) {
                    return true;
                }
            }
            return false;
        }

        int firstOf(int n) {
            return pair[n] / SYMBOLS;
        }

        int secondOf(int n) {
            return pair[n] % SYMBOLS;
        }

        int childCount(int row) {
            return childAt[row + 1] - childAt[row];
        }

        /** Keeps the rows that a theorem's steps have made. */
        void keepRows(int i, int count) {
            rowAt[i] = rowsUsed;
            rowCount[i] = count;
            for (int row = rowsUsed; row < rowsUsed + count; row++) {
                long n = 1;
                for (int c = childAt[row]; c < childAt[row + 1]; c++) {
                    n = Math.min(SIZE + 1, n + rowLabels[rowsUsed + children[c]]);
                }
                rowLabels[row] = n;
            }
            rowsUsed += count;
        }

        /** How many labels a theorem's proof has in full, or one more than SIZE. */
        long labelsOf(int i) {
            return rowLabels[rowAt[i] + rowCount[i] - 1];
        }

        void addRest(int i, int k) {
            for (int w = 0; w < WORDS; w++) {
                rests[i * WORDS + w] |= rests[k * WORDS + w];
            }
            rests[i * WORDS + (k >> 6)] |= 1L << (k & 63);
        }

        boolean restsOn(int i, int k) {
            return (rests[i * WORDS + (k >> 6)] >>> (k & 63) & 1) != 0;
        }

        int restCount(int i) {
            int n = 0;
            for (int w = 0; w < WORDS; w++) {
                n += Long.bitCount(rests[i * WORDS + w]);
            }
            return n;
        }

        boolean restsOnEarlier(int i) {
            for (int k = i; k < library.statements; k++) {
                if (restsOn(i, k)) {
                    return false;
                }
            }
            return true;
        }
    }

    /** Reads a text, token by token. */
    static final class Reader {
        private static final int OUTSIDE = 0;
        private static final int LABELLED = 1;
        private static final int CONSTANTS = 2;
        private static final int VARIABLES = 3;
        private static final int DISJOINT = 4;
        private static final int STATEMENT = 5;
        private static final int PROOF = 6;
        private static final int PROVED = 7;

        private final Library library;
        private final Assertions assertions;
        private final Scopes scopes;
        private final Steps steps;
        private final int[] disjoint = new int[SYMBOLS];
        private char[] source;
        private int place;
        private boolean comment;
        private int state;
        /* How many symbols the statement, declaration or row of variables apart has so far. */
        private int items;
        private int kind;
        /* What the token names that is looked at, or NONE. */
        private int namedSymbol;
        private int namedStatement;

        Reader(Library library, Assertions assertions, Scopes scopes, Steps steps) {
            this.library = library;
            this.assertions = assertions;
            this.scopes = scopes;
            this.steps = steps;
        }

        /** The text's fault, which stands at the place, or 0. */
        int readText(char[] text, int length) {
            begin(text);
            int fault = 0;
            int at = skipBlanks(text, 0, length);
            /* A token is a character long, at least. */
            for (int turn = 0; turn < length && at < length && fault == 0; turn++) {
                int end = tokenEnd(text, at, length);
                place = at;
                fault = end == at ? FAULT_CHAR : token(at, end - at);
                if (fault == 0 && state == PROVED) {
                    fault = endTheorem();
                }
                at = skipBlanks(text, end, length);
            }
            if (fault == 0) {
                place = length;
                fault = faultAtEnd();
            }
            if (fault != 0) {
                library.goBack();
                assertions.goBack();
                scopes.goBack();
            }
            return fault;
        }

        private void begin(char[] text) {
            source = text;
            comment = false;
            state = OUTSIDE;
            library.keep();
            assertions.keep();
            scopes.keep();
        }

        private int faultAtEnd() {
            if (comment) {
                return FAULT_COMMENT;
            }
            return state != OUTSIDE || scopes.depth > 0 ? FAULT_ORDER : 0;
        }

        private int token(int from, int size) {
            boolean mark = size == 2 && source[from] == '$';
            int letter = mark ? source[from + 1] : 0;
            if (comment) {
                comment = letter != ')';
                return comment && hasCommentMark(from, size) ? FAULT_COMMENT : 0;
            }
            if (letter == '(') {
                comment = true;
                return 0;
            }
            if (letter == ')') {
                return FAULT_COMMENT;
            }
            if (letter == '.') {
                return endRow();
            }
            if (mark) {
                return keyword(letter);
            }
            if (hasDollar(from, size)) {
                return FAULT_TOKEN;
            }
            int name = library.nameOf(source, from, size);
            namedSymbol = library.symbolOf(name);
            namedStatement = library.statementOf(name);
            if (state != PROOF) {
                return word(from, size);
            }
            int fault = steps.word(source, from, size, namedStatement);
            place = steps.place;
            return fault;
        }

        private boolean hasCommentMark(int from, int size) {
            for (int k = from; k < from + size - 1; k++) {
                if (source[k] == '$' && (source[k + 1] == '(' || source[k + 1] == ')')) {
                    return true;
                }
            }
            return false;
        }

        private boolean hasDollar(int from, int size) {
            for (int k = from; k < from + size; k++) {
                if (source[k] == '$') {
                    return true;
                }
            }
            return false;
        }

        private int keyword(int letter) {
            switch (letter) {
                case 'c':
                case 'v':
                case 'd':
                    return state == OUTSIDE ? declaration(letter) : FAULT_ORDER;
                case 'f':
                case 'e':
                case 'a':
                case 'p':
                    return state == LABELLED ? statement(letter) : FAULT_ORDER;
                case '=':
                    return proof();
                case '{':
                    return openScope();
                case '}':
                    return closeScope();
                default:
                    return FAULT_TOKEN;
            }
        }

        private int declaration(int letter) {
            if (letter == 'c' && scopes.depth > 0) {
                return FAULT_SCOPE;
            }
            items = 0;
            state = letter == 'c' ? CONSTANTS : letter == 'v' ? VARIABLES : DISJOINT;
            return 0;
        }

        private int statement(int letter) {
            items = 0;
            state = STATEMENT;
            kind = letter == 'f' ? FLOATING : letter == 'e' ? ESSENTIAL : letter == 'a' ? AXIOM : THEOREM;
            return 0;
        }

        private int openScope() {
            if (state != OUTSIDE) {
                return FAULT_ORDER;
            }
            if (scopes.depth == SCOPES) {
                return FAULT_FULL;
            }
            scopes.open();
            return 0;
        }

        private int closeScope() {
            if (state != OUTSIDE || scopes.depth == 0) {
                return FAULT_ORDER;
            }
            scopes.close();
            return 0;
        }

        private int proof() {
            if (state != STATEMENT || kind != THEOREM || items == 0) {
                return FAULT_ORDER;
            }
            if (!assertions.makeFrame(library.statements)) {
                return FAULT_FULL;
            }
            state = PROOF;
            steps.begin(library.statements);
            return 0;
        }

        private int endRow() {
            switch (state) {
                case CONSTANTS:
                case VARIABLES:
                    return endDeclaration(1);
                case DISJOINT:
                    return endDeclaration(2);
                case STATEMENT:
                    return endStatement();
                case PROOF:
                    return endProof();
                default:
                    return FAULT_ORDER;
            }
        }

        private int endDeclaration(int least) {
            state = OUTSIDE;
            return items < least ? FAULT_ORDER : 0;
        }

        private int endStatement() {
            int least = kind == FLOATING ? 2 : 1;
            if (items < least || kind == THEOREM) {
                return FAULT_ORDER;
            }
            int i = library.statements;
            if (kind == AXIOM && !assertions.makeFrame(i)) {
                return FAULT_FULL;
            }
            library.add(kind);
            if (kind != AXIOM) {
                scopes.addHypothesis(i);
            }
            state = OUTSIDE;
            return 0;
        }

        private int endProof() {
            if (steps.isListing()) {
                return FAULT_ORDER;
            }
            state = PROVED;
            return steps.isWithinNumber() ? FAULT_PACKED : 0;
        }

        /** At a proof's end: its steps are gone through, and the theorem is kept. */
        private int endTheorem() {
            int fault = steps.open ? 0 : steps.goThrough(place);
            place = steps.open ? place : steps.place;
            if (fault != 0) {
                return fault;
            }
            steps.noteRests();
            library.add(steps.open ? OPEN : THEOREM);
            state = OUTSIDE;
            return 0;
        }

        private int word(int from, int size) {
            switch (state) {
                case OUTSIDE:
                    return label(from, size);
                case CONSTANTS:
                    return declareConstant(from, size);
                case VARIABLES:
                    return declareVariable(from, size);
                case DISJOINT:
                    return takeApart(namedSymbol);
                case STATEMENT:
                    return takeSymbol(namedSymbol);
                default:
                    return FAULT_ORDER;
            }
        }

        private int label(int from, int size) {
            if (library.statements == STATEMENTS || !library.hasRoomForName(size)) {
                return FAULT_FULL;
            }
            if (!isLabel(source, from, size)) {
                return FAULT_LABEL;
            }
            if (namedSymbol != NONE || namedStatement != NONE) {
                return FAULT_TWICE;
            }
            library.addLabel(source, from, size);
            state = LABELLED;
            return 0;
        }

        private int declareConstant(int from, int size) {
            items++;
            if (namedSymbol != NONE) {
                return FAULT_TWICE;
            }
            int fault = faultOfNewSymbol(size);
            if (fault == 0) {
                library.addSymbol(source, from, size, false);
            }
            return fault;
        }

        private int faultOfNewSymbol(int size) {
            if (library.symbols == SYMBOLS || !library.hasRoomForName(size)) {
                return FAULT_FULL;
            }
            return namedStatement == NONE ? 0 : FAULT_TWICE;
        }

        private int declareVariable(int from, int size) {
            items++;
            int s = namedSymbol;
            if (s == NONE) {
                int fault = faultOfNewSymbol(size);
                if (fault != 0) {
                    return fault;
                }
                s = library.addSymbol(source, from, size, true);
            } else if (scopes.isKnown(s)) {
                return FAULT_TWICE;
            }
            scopes.addVariable(s);
            return 0;
        }

        private int takeApart(int s) {
            if (!scopes.isKnown(s)) {
                return FAULT_UNKNOWN;
            }
            if (!library.variable[s]) {
                return FAULT_KIND;
            }
            for (int n = 0; n < items; n++) {
                if (disjoint[n] == s) {
                    return FAULT_TWICE;
                }
            }
            for (int n = 0; n < items; n++) {
                if (scopes.areApart(disjoint[n], s)) {
                    continue;
                }
                if (scopes.pairCount == ACTIVE_PAIRS) {
                    return FAULT_FULL;
                }
                scopes.addPair(disjoint[n], s);
            }
            disjoint[items] = s;
            items++;
            return 0;
        }

        private int takeSymbol(int s) {
            if (kind == FLOATING && items == 2) {
                return FAULT_ORDER;
            }
            if (items == STATEMENT_LENGTH || library.used == ALL_STATEMENTS) {
                return FAULT_FULL;
            }
            items++;
            if (items == 1) {
                return firstSymbol(s);
            }
            if (kind == FLOATING) {
                return floatingVariable(s);
            }
            if (!scopes.isKnown(s)) {
                return FAULT_UNKNOWN;
            }
            if (library.variable[s] && scopes.activeFloat[s] == NONE) {
                return FAULT_UNTYPED;
            }
            library.append(s, library.variable[s] ? scopes.activeFloat[s] : NONE);
            return 0;
        }

        private int firstSymbol(int s) {
            boolean isConstant = s != NONE && !library.variable[s];
            if (isConstant && library.rank[s] == NONE && library.ranks == FIRST_SYMBOLS) {
                return FAULT_FULL;
            }
            if (!isConstant) {
                return scopes.isKnown(s) ? FAULT_KIND : FAULT_UNKNOWN;
            }
            library.giveRank(s);
            library.append(s, NONE);
            return 0;
        }

        private int floatingVariable(int s) {
            if (s != NONE && scopes.activeFloat[s] != NONE) {
                return FAULT_TWICE;
            }
            if (!scopes.isKnown(s)) {
                return FAULT_UNKNOWN;
            }
            if (!library.variable[s]) {
                return FAULT_KIND;
            }
            int i = library.statements;
            int earlier = library.firstFloat[s];
            if (earlier != NONE && library.typeOf(earlier) != library.typeOf(i)) {
                return FAULT_TYPE;
            }
            library.append(s, i);
            return 0;
        }
    }

    /** The proof that is being read: its steps, and how they are gone through. */
    static final class Steps {
        private static final int START = 0;
        private static final int PLAIN = 1;
        private static final int LISTING = 2;
        private static final int LETTERS = 3;
        private static final int SAVE = 1 << 16;

        private final Library library;
        private final Assertions assertions;
        private final Scopes scopes;
        private final Pile pile;
        /* A statement's number (with SAVE, if its row is saved), or a saved row's complement. */
        private final int[] steps = new int[STEPS];
        private final int[] places = new int[STEPS];
        private int count;
        private final int[] listed = new int[LISTED];
        private int listedCount;
        private int savedCount;
        private int theorem;
        private int form;
        private int number;
        private boolean afterAssertion;
        private boolean open;
        private int place;

        private final int[] pileRow = new int[PILE_ROWS];
        private int pileRows;
        private final int[] savedRow = new int[SAVED];
        /* Of all rows on the pile and all saved ones. */
        private int symbols;
        private int rows;

        Steps(Library library, Assertions assertions, Scopes scopes, Pile pile) {
            this.library = library;
            this.assertions = assertions;
            this.scopes = scopes;
            this.pile = pile;
        }

        void begin(int i) {
            theorem = i;
            form = START;
            count = 0;
            listedCount = 0;
            savedCount = 0;
            number = 0;
            afterAssertion = false;
            open = false;
        }

        boolean isListing() {
            return form == LISTING;
        }

        boolean isWithinNumber() {
            return number > 0;
        }

        private boolean isFull() {
            return assertions.steps + count >= STEPS;
        }

        /** Takes a token of the proof, and what statement it names. */
        int word(char[] source, int from, int size, int named) {
            place = from;
            if (form == START) {
                form = isOne(source, from, size, '(') ? LISTING : PLAIN;
                if (form == LISTING) {
                    return 0;
                }
            }
            if (form == PLAIN) {
                return plainStep(source, from, size, named);
            }
            return form == LISTING ? listLabel(source, from, size, named) : letters(source, from, size);
        }

        private static boolean isOne(char[] source, int from, int size, int c) {
            return size == 1 && source[from] == c;
        }

        private int plainStep(char[] source, int from, int size, int named) {
            if (isOne(source, from, size, '?')) {
                open = true;
                return 0;
            }
            if (isFull() && isLabel(source, from, size)) {
                return FAULT_FULL;
            }
            if (!isUsable(named)) {
                return FAULT_STEP;
            }
            addStep(named);
            return 0;
        }

        /** Whether it is an active hypothesis or earlier assertion. */
        private boolean isUsable(int i) {
            return i != NONE && i < theorem && (library.kind[i] >= AXIOM || scopes.holds[i]);
        }

        private void addStep(int step) {
            steps[count] = step;
            places[count] = place;
            count++;
        }

        private int listLabel(char[] source, int from, int size, int named) {
            if (isOne(source, from, size, ')')) {
                form = LETTERS;
                return 0;
            }
            if (listedCount == LISTED && isLabel(source, from, size)) {
                return FAULT_FULL;
            }
            if (!isUsable(named)) {
                return FAULT_STEP;
            }
            if (assertions.placeInFrame(theorem, named) != NONE || isListed(named)) {
                return FAULT_PACKED;
            }
            listed[listedCount] = named;
            listedCount++;
            return 0;
        }

        private boolean isListed(int i) {
            for (int n = 0; n < listedCount; n++) {
                if (listed[n] == i) {
                    return true;
                }
            }
            return false;
        }

        private int letters(char[] source, int from, int size) {
            int fault = 0;
            for (int k = from; k < from + size && fault == 0; k++) {
                place = k;
                fault = letter(source[k]);
            }
            return fault;
        }

        private int letter(int c) {
            if (c == 'Z') {
                return save();
            }
            boolean wasAssertion = afterAssertion;
            afterAssertion = false;
            if (c >= 'A' && c <= 'T') {
                return endNumber(number * 20 + c - 'A' + 1);
            }
            if (c >= 'U' && c <= 'Y') {
                number = number * 5 + c - 'U' + 1;
                return number > NUMBER ? FAULT_FULL : 0;
            }
            if (c == '?' && number == 0) {
                open = true;
                return 0;
            }
            return FAULT_PACKED;
        }

        private int save() {
            if (!afterAssertion) {
                return FAULT_PACKED;
            }
            if (savedCount == SAVED) {
                return FAULT_FULL;
            }
            afterAssertion = false;
            steps[count - 1] |= SAVE;
            savedCount++;
            return 0;
        }

        private int endNumber(int n) {
            number = 0;
            if (n > NUMBER || isFull()) {
                return FAULT_FULL;
            }
            int mandatory = assertions.frameSize[theorem];
            if (n <= mandatory) {
                addStep(assertions.hypotheses[assertions.frameAt[theorem] + n - 1]);
            } else if (n <= mandatory + listedCount) {
                int i = listed[n - mandatory - 1];
                afterAssertion = library.kind[i] >= AXIOM;
                addStep(i);
            } else if (n <= mandatory + listedCount + savedCount) {
                addStep(~(n - mandatory - listedCount - 1));
            } else {
                return FAULT_PACKED;
            }
            return 0;
        }

        /** Counts the proof's steps, and notes the assertions among them. */
        void noteRests() {
            for (int n = 0; n < count; n++) {
                int i = steps[n] & SAVE - 1;
                if (steps[n] >= 0 && library.kind[i] >= AXIOM && !assertions.restsOn(theorem, i)) {
                    assertions.addRest(theorem, i);
                }
            }
            assertions.steps += count;
        }

        int goThrough(int endPlace) {
            pile.clear();
            pileRows = 0;
            savedCount = 0;
            symbols = 0;
            rows = 0;
            for (int n = 0; n < count; n++) {
                place = places[n];
                int fault = steps[n] < 0 ? putAgain(savedRow[~steps[n]]) : take(steps[n]);
                if (fault != 0) {
                    return fault;
                }
            }
            place = endPlace;
            if (pileRows != 1) {
                return FAULT_END;
            }
            if (!pile.isStatement(pileRow[0], theorem)) {
                return FAULT_RESULT;
            }
            assertions.keepRows(theorem, rows);
            return 0;
        }

        private int take(int step) {
            int i = step & SAVE - 1;
            int row = assertions.rowsUsed + rows;
            int first = assertions.childAt[row];
            int taken = 0;
            if (library.kind[i] < AXIOM) {
                pile.buildHypothesis(i);
            } else {
                taken = assertions.frameSize[i];
                if (pileRows < taken) {
                    return FAULT_FEW;
                }
                for (int h = 0; h < taken; h++) {
                    assertions.children[first + h] = pileRow[pileRows - taken + h];
                }
                if (!pile.bind(i, first)) {
                    return FAULT_MATCH;
                }
                if (!pile.keepsApart(i)) {
                    return FAULT_MEET;
                }
                if (!pile.build(i)) {
                    return FAULT_FULL;
                }
            }
            assertions.rowStatement[row] = i;
            assertions.childAt[row + 1] = first + taken;
            for (int h = 0; h < taken; h++) {
                symbols -= pile.size[assertions.children[first + h]];
            }
            pileRows -= taken;
            pile.drop(first, taken);
            return putNew(step != i);
        }

        private int putNew(boolean save) {
            int row = rows;
            if (!pile.put(row, save)) {
                return FAULT_FULL;
            }
            rows++;
            int fault = putAgain(row);
            if (fault != 0 || !save) {
                return fault;
            }
            savedRow[savedCount] = row;
            savedCount++;
            symbols += pile.size[row];
            return symbols > PILE_LENGTH ? FAULT_FULL : 0;
        }

        private int putAgain(int row) {
            symbols += pile.size[row];
            if (pileRows == PILE_ROWS || symbols > PILE_LENGTH) {
                return FAULT_FULL;
            }
            pileRow[pileRows] = row;
            pileRows++;
            return 0;
        }
    }

    /** Rows of symbols, each made by a statement from others. */
    static final class Pile {
        /* A row more than may be, so that the newest one is put before it is counted. */
        private static final int ROOM = PILE_LENGTH + 2 * ROW_LENGTH;

        private final Library library;
        private final Assertions assertions;
        private final Scopes scopes;
        /* Rows that are used once stand from the start on, the last one made behind; the others from the end. */
        private final int[] data = new int[ROOM];
        private int low;
        private int high;
        private final int[] at = new int[STEPS];
        private final int[] size = new int[STEPS];
        private final int[] uses = new int[STEPS];
        private final int[] built = new int[ROW_LENGTH];
        private int builtSize;
        private final int[] becomesAt = new int[SYMBOLS];
        private final int[] becomesSize = new int[SYMBOLS];
        private final int[] met = new int[SYMBOLS];
        private int turn;
        private final int[] variablesX = new int[ROW_LENGTH];
        private final int[] variablesY = new int[ROW_LENGTH];

        Pile(Library library, Assertions assertions, Scopes scopes) {
            this.library = library;
            this.assertions = assertions;
            this.scopes = scopes;
        }

        void clear() {
            low = 0;
            high = ROOM;
        }

        /** Whether the rows fit the mandatory hypotheses; what variables become is noted. */
        boolean bind(int i, int first) {
            for (int k = 0; k < assertions.frameSize[i]; k++) {
                int h = assertions.hypotheses[assertions.frameAt[i] + k];
                int row = assertions.children[first + k];
                if (library.kind[h] == ESSENTIAL) {
                    if (!isEssential(row, h)) {
                        return false;
                    }
                    continue;
                }
                if (size[row] == 0 || data[at[row]] != library.typeOf(h)) {
                    return false;
                }
                becomesAt[library.variableOf(h)] = at[row] + 1;
                becomesSize[library.variableOf(h)] = size[row] - 1;
            }
            return true;
        }

        private boolean isEssential(int row, int e) {
            int place = at[row];
            int end = place + size[row];
            for (int p = library.at[e]; p < library.at[e + 1]; p++) {
                int s = library.text[p];
                boolean isConstant = library.floats[p] == NONE;
                int n = isConstant ? 1 : becomesSize[s];
                if (place + n > end) {
                    return false;
                }
                if (isConstant ? data[place] != s : !isSame(becomesAt[s], place, n)) {
                    return false;
                }
                place += n;
            }
            return place == end;
        }

        private boolean isSame(int x, int y, int n) {
            for (int k = 0; k < n; k++) {
                if (data[x + k] != data[y + k]) {
                    return false;
                }
            }
            return true;
        }

        /** Whether what the variables of each pair become is apart, and active so. */
        boolean keepsApart(int i) {
            for (int n = assertions.pairAt[i]; n < assertions.pairAt[i] + assertions.pairSize[i]; n++) {
                int x = gather(assertions.firstOf(n), variablesX);
                int y = gather(assertions.secondOf(n), variablesY);
                if (!areApart(x, y)) {
                    return false;
                }
            }
            return true;
        }

        private int gather(int v, int[] found) {
            turn++;
            int n = 0;
            for (int p = becomesAt[v]; p < becomesAt[v] + becomesSize[v]; p++) {
                int s = data[p];
                if (library.variable[s] && met[s] != turn) {
                    met[s] = turn;
                    found[n] = s;
                    n++;
                }
            }
            return n;
        }

        private boolean areApart(int countX, int countY) {
            for (int x = 0; x < countX; x++) {
                for (int y = 0; y < countY; y++) {
                    if (!scopes.areApart(variablesX[x], variablesY[y])) {
                        return false;
                    }
                }
            }
            return true;
        }

        /** Builds the row that assertion i makes; false when it would be too long. */
        boolean build(int i) {
            int n = 0;
            for (int p = library.at[i]; p < library.at[i + 1]; p++) {
                n += library.floats[p] == NONE ? 1 : becomesSize[library.text[p]];
            }
            if (n > ROW_LENGTH) {
                return false;
            }
            builtSize = 0;
            for (int p = library.at[i]; p < library.at[i + 1]; p++) {
                int s = library.text[p];
                if (library.floats[p] == NONE) {
                    built[builtSize] = s;
                    builtSize++;
                } else {
                    System.arraycopy(data, becomesAt[s], built, builtSize, becomesSize[s]);
                    builtSize += becomesSize[s];
                }
            }
            return true;
        }

        void buildHypothesis(int i) {
            builtSize = library.lengthOf(i);
            System.arraycopy(library.text, library.at[i], built, 0, builtSize);
        }

        /** Takes rows off that are used by the row that is built, as far as they are used once. */
        void drop(int first, int count) {
            for (int c = first; c < first + count; c++) {
                int row = assertions.children[c];
                if (uses[row] < 2) {
                    low -= size[row];
                }
            }
        }

        /** Puts what is built; false when there is no room. */
        boolean put(int row, boolean again) {
            if (low + builtSize > high) {
                return false;
            }
            uses[row] = again ? 2 : 1;
            size[row] = builtSize;
            at[row] = low;
            if (again) {
                high -= builtSize;
                at[row] = high;
            } else {
                low += builtSize;
            }
            System.arraycopy(built, 0, data, at[row], builtSize);
            return true;
        }

        boolean isStatement(int row, int i) {
            if (size[row] != library.lengthOf(i)) {
                return false;
            }
            for (int k = 0; k < size[row]; k++) {
                if (data[at[row] + k] != library.text[library.at[i] + k]) {
                    return false;
                }
            }
            return true;
        }

        /** Makes the rows of a theorem's proof again, up to the last one that is wanted. */
        boolean goAgain(int i, int last) {
            clear();
            int base = assertions.rowAt[i];
            int end = base + assertions.rowCount[i];
            Arrays.fill(uses, 0, end - base, 0);
            for (int c = assertions.childAt[base]; c < assertions.childAt[end]; c++) {
                uses[assertions.children[c]]++;
            }
            for (int row = 0; row <= last; row++) {
                int s = assertions.rowStatement[base + row];
                int first = assertions.childAt[base + row];
                if (library.kind[s] < AXIOM) {
                    buildHypothesis(s);
                } else if (!bind(s, first) || !build(s)) {
                    return false;
                }
                drop(first, assertions.childCount(base + row));
                if (!put(row, uses[row] > 1)) {
                    return false;
                }
            }
            return true;
        }
    }

    /** Tells a theorem's proof anew, packed or in full. */
    static final class Packer {
        private static final int BUCKETS = 1 << 15;

        private final Library library;
        private final Assertions assertions;
        /* The first row that is the same: from the same assertion and such rows. */
        private final int[] sameAs = new int[STEPS];
        private final int[] heads = new int[BUCKETS];
        private final int[] nextRow = new int[STEPS];
        /* How often a row was told that all like it refer to. */
        private final int[] tellings = new int[STEPS];
        private final int[] numbers = new int[STEPS];
        private final int[] labelNumbers = new int[STATEMENTS];
        private final int[] listed = new int[STATEMENTS];
        private int listedCount;
        /* What is told, in order: a row with steps of its own, or the complement of one that was told before. */
        private final int[] told = new int[STEPS + 1];
        private int toldCount;
        private final int[] stackRow = new int[STEPS];
        private final int[] stackNext = new int[STEPS];
        private int depth;
        private final int[] full = new int[UNPACKED];
        private int fullCount;
        private final int[] starts = new int[STEPS];
        private int base;

        Packer(Library library, Assertions assertions) {
            this.library = library;
            this.assertions = assertions;
        }

        void pack(int i) {
            base = assertions.rowAt[i];
            findSame(assertions.rowCount[i]);
            Arrays.fill(tellings, 0, assertions.rowCount[i], 0);
            walk(assertions.rowCount[i] - 1, true);
            giveNumbers(i);
        }

        void unpack(int i) {
            base = assertions.rowAt[i];
            walk(assertions.rowCount[i] - 1, false);
        }

        private void findSame(int count) {
            int mask = 1;
            while (mask < count && mask < BUCKETS) {
                mask *= 2;
            }
            Arrays.fill(heads, 0, mask, 0);
            mask--;
            for (int row = 0; row < count; row++) {
                int bucket = hash(row) & mask;
                int like = heads[bucket];
                for (int turn = 0; turn < count && like > 0 && !isAlike(like - 1, row); turn++) {
                    like = nextRow[like - 1];
                }
                sameAs[row] = row;
                if (like > 0) {
                    sameAs[row] = like - 1;
                } else {
                    nextRow[row] = heads[bucket];
                    heads[bucket] = row + 1;
                }
            }
        }

        private int hash(int row) {
            int h = assertions.rowStatement[base + row];
            for (int c = assertions.childAt[base + row]; c < assertions.childAt[base + row + 1]; c++) {
                h = h * 1000003 + sameAs[assertions.children[c]];
            }
            h *= 0x9E3779B1;
            return h >>> 16;
        }

        private boolean isAlike(int x, int y) {
            if (assertions.rowStatement[base + x] != assertions.rowStatement[base + y]) {
                return false;
            }
            int first = assertions.childAt[base + x];
            int other = assertions.childAt[base + y];
            for (int h = 0; h < assertions.childCount(base + x); h++) {
                if (sameAs[assertions.children[first + h]] != sameAs[assertions.children[other + h]]) {
                    return false;
                }
            }
            return true;
        }

        /** Tells a row with all that it comes from, each with its own before it. */
        private void walk(int root, boolean packs) {
            toldCount = 0;
            depth = 0;
            enter(root, packs);
            for (int turn = 0; turn < TURNS && depth > 0; turn++) {
                int row = stackRow[depth - 1];
                int next = stackNext[depth - 1];
                if (next < assertions.childCount(base + row)) {
                    stackNext[depth - 1]++;
                    enter(assertions.children[assertions.childAt[base + row] + next], packs);
                } else {
                    depth--;
                    tell(row);
                    tellings[sameAs[row]] = packs ? 1 : 0;
                }
            }
        }

        private void enter(int row, boolean packs) {
            if (assertions.childCount(base + row) == 0) {
                tell(row);
            } else if (packs && tellings[sameAs[row]] > 0) {
                tellings[sameAs[row]]++;
                tell(~sameAs[row]);
            } else if (depth < STEPS) {
                stackRow[depth] = row;
                stackNext[depth] = 0;
                depth++;
            }
        }

        private void tell(int row) {
            if (toldCount < told.length) {
                told[toldCount] = row;
                toldCount++;
            }
        }

        private void giveNumbers(int i) {
            Arrays.fill(labelNumbers, 0);
            int mandatory = assertions.frameSize[i];
            for (int k = 0; k < mandatory; k++) {
                labelNumbers[assertions.hypotheses[assertions.frameAt[i] + k]] = k + 1;
            }
            listedCount = 0;
            for (int n = 0; n < toldCount; n++) {
                int s = statementOf(n);
                if (s != NONE && labelNumbers[s] == 0) {
                    listed[listedCount] = s;
                    listedCount++;
                    labelNumbers[s] = mandatory + listedCount;
                }
            }
            int number = mandatory + listedCount;
            for (int n = 0; n < toldCount; n++) {
                if (saves(n)) {
                    number++;
                    numbers[sameAs[told[n]]] = number;
                }
            }
        }

        /** The statement whose label is told; NONE where a saved row is. */
        int statementOf(int n) {
            return told[n] < 0 ? NONE : assertions.rowStatement[base + told[n]];
        }

        int numberOf(int n) {
            return told[n] < 0 ? numbers[~told[n]] : labelNumbers[statementOf(n)];
        }

        boolean saves(int n) {
            return told[n] >= 0 && assertions.childCount(base + told[n]) > 0 && tellings[sameAs[told[n]]] > 1;
        }

        /** Whether the proof, packed anew and unpacked again, tells the same rows in full. */
        boolean comesBack(int i) {
            pack(i);
            if (!fill()) {
                return false;
            }
            unpack(i);
            if (toldCount != fullCount) {
                return false;
            }
            for (int n = 0; n < toldCount; n++) {
                if (statementOf(n) != full[n]) {
                    return false;
                }
            }
            return true;
        }

        /** Unpacks what is told; of a row that was told the labels stand from numbers on to nextRow. */
        private boolean fill() {
            fullCount = 0;
            int piled = 0;
            for (int n = 0; n < toldCount; n++) {
                int row = told[n];
                int start = fullCount;
                int taken = row < 0 ? 0 : assertions.childCount(base + row);
                if (taken > piled || !fillIn(row)) {
                    return false;
                }
                piled -= taken;
                if (taken > 0) {
                    start = starts[piled];
                    numbers[sameAs[row]] = start;
                    nextRow[sameAs[row]] = fullCount;
                }
                starts[piled] = start;
                piled++;
            }
            return piled == 1;
        }

        private boolean fillIn(int row) {
            int from = row < 0 ? numbers[~row] : 0;
            int count = row < 0 ? nextRow[~row] - from : 1;
            if (from < 0 || count < 0 || fullCount + count > UNPACKED) {
                return false;
            }
            for (int k = 0; k < count; k++) {
                full[fullCount] = row < 0 ? full[from + k] : assertions.rowStatement[base + row];
                fullCount++;
            }
            return true;
        }
    }

    /** The rules of the grammar, by the symbols that they begin with. */
    static final class Rules {
        private final Library library;
        private final Assertions assertions;
        /* Nodes of the rules' beginnings; 0 is the root, and stands where there is none. */
        private final int[] firstChild = new int[ALL_STATEMENTS + 1];
        private final int[] sibling = new int[ALL_STATEMENTS + 1];
        /* A constant, or the complement of a sort's rank. */
        private final int[] key = new int[ALL_STATEMENTS + 1];
        /* The first axiom that made the node: those before it don't have it. */
        private final int[] born = new int[ALL_STATEMENTS + 1];
        /* Chains of the rules that end at a node: a statement's number and one more. */
        private final int[] firstRule = new int[ALL_STATEMENTS + 1];
        private final int[] nextRule = new int[STATEMENTS];
        private int nodes = 1;
        private final int[] atConstant = new int[SYMBOLS];
        private final int[] atSort = new int[FIRST_SYMBOLS];
        /* Rules of one variable alone. */
        private final int[] unitRule = new int[STATEMENTS];
        private final int[] unitFrom = new int[STATEMENTS];
        private int units;
        private int learned;
        private int provable = NONE;
        private int wff = NONE;

        Rules(Library library, Assertions assertions) {
            this.library = library;
            this.assertions = assertions;
        }

        /** Takes in the axioms that have been read since. */
        void learn() {
            provable = constantNamed(PROVABLE_NAME);
            wff = constantNamed(WFF_NAME);
            for (int i = learned; i < library.statements; i++) {
                if (library.lengthOf(i) <= TREE_LENGTH && isRule(i)) {
                    insert(i);
                }
            }
            learned = library.statements;
        }

        private int constantNamed(char[] name) {
            int s = library.symbolNamed(name, 0, name.length);
            return s == NONE || library.variable[s] ? NONE : s;
        }

        boolean isRule(int i) {
            if (library.kind[i] != AXIOM || library.typeOf(i) == provable || library.lengthOf(i) < 2) {
                return false;
            }
            if (assertions.hasEssential(i)) {
                return false;
            }
            int variables = 0;
            for (int p = library.at[i]; p < library.at[i + 1]; p++) {
                int f = library.floats[p];
                if (f != NONE && library.typeOf(f) == provable) {
                    return false;
                }
                variables += f == NONE ? 0 : 1;
            }
            /* The frame has each variable once, as there are no essential hypotheses. */
            return variables == assertions.frameSize[i];
        }

        private void insert(int i) {
            int node = 0;
            for (int p = library.at[i] + 1; p < library.at[i + 1]; p++) {
                int f = library.floats[p];
                node = child(node, f == NONE ? library.text[p] : ~library.rank[library.typeOf(f)], i);
            }
            nextRule[i] = firstRule[node];
            firstRule[node] = i + 1;
            int f = library.floats[library.at[i] + 1];
            if (library.lengthOf(i) == 2 && f != NONE) {
                unitRule[units] = i;
                unitFrom[units] = library.rank[library.typeOf(f)];
                units++;
            }
        }

        private int child(int node, int wanted, int i) {
            int found = firstChild[node];
            for (int turn = 0; turn < nodes && found > 0 && key[found] != wanted; turn++) {
                found = sibling[found];
            }
            if (found > 0) {
                return found;
            }
            sibling[nodes] = firstChild[node];
            firstChild[node] = nodes;
            key[nodes] = wanted;
            born[nodes] = i;
            if (node == 0 && wanted < 0) {
                atSort[~wanted] = nodes;
            } else if (node == 0) {
                atConstant[wanted] = nodes;
            }
            nodes++;
            return nodes - 1;
        }

        /** The rank of a symbol as a sort. */
        int sortRank(int s) {
            return s == provable ? NONE : library.rank[s];
        }

        /** The rank of the sort of trees for rows with this first symbol. */
        int goalRank(int s) {
            int sort = s == provable ? wff : s;
            return sort == NONE ? NONE : library.rank[sort];
        }
    }

    /** Which sorts have trees for which parts of a row of symbols. */
    static final class Chart {
        private final Library library;
        private final Rules rules;
        private final int[] row = new int[TREE_LENGTH];
        private final int[] leaf = new int[TREE_LENGTH];
        private int length;
        private int limit;
        private int goal;
        /* For each symbol the places where it stands in the row. */
        private final long[] where = new long[SYMBOLS];
        /* For each sort and start the ends where it has a tree, and where it has several. */
        private final long[] has = new long[FIRST_SYMBOLS * TREE_LENGTH];
        private final long[] several = new long[FIRST_SYMBOLS * TREE_LENGTH];
        private final int[] madeBy = new int[FIRST_SYMBOLS * SPANS];
        private int start;
        private final int[] stackNode = new int[TREE_LENGTH + 1];
        private final long[] stackHas = new long[TREE_LENGTH + 1];
        private final long[] stackSeveral = new long[TREE_LENGTH + 1];
        private final int[] base = new int[FIRST_SYMBOLS];
        private final int[] total = new int[FIRST_SYMBOLS];
        private final int[] next = new int[FIRST_SYMBOLS];

        Chart(Library library, Rules rules) {
            this.library = library;
            this.rules = rules;
        }

        /** Takes a statement of at most sixty symbols. */
        void takeStatement(int i) {
            forgetRow();
            length = Math.min(library.lengthOf(i), TREE_LENGTH) - 1;
            for (int k = 0; k < length; k++) {
                row[k] = library.text[library.at[i] + 1 + k];
                leaf[k] = library.floats[library.at[i] + 1 + k];
            }
            limit = i;
            goal = rules.goalRank(library.typeOf(i));
        }

        /** Takes a row of at most sixty symbols, for all rules, and each variable as its first floating hypothesis. */
        void takeRow(int[] symbols, int size) {
            forgetRow();
            length = Math.min(size, TREE_LENGTH) - 1;
            for (int k = 0; k < length; k++) {
                row[k] = symbols[k + 1];
                leaf[k] = library.firstFloat[symbols[k + 1]];
            }
            limit = library.statements;
            goal = rules.goalRank(symbols[0]);
        }

        private void forgetRow() {
            for (int k = 0; k < length; k++) {
                where[row[k]] = 0;
            }
        }

        /** How many trees what was taken has: 0, 1, or 2 for more. */
        int countTrees() {
            if (goal == NONE || length == 0) {
                return 0;
            }
            for (int k = 0; k < length; k++) {
                where[row[k]] |= 1L << k;
            }
            for (int k = length - 1; k >= 0; k--) {
                start = k;
                parseFromStart();
            }
            int cell = goal * TREE_LENGTH;
            return (int) ((has[cell] >>> length & 1) + (several[cell] >>> length & 1));
        }

        /** Whether a sort has a tree from the start to an end. */
        private boolean reaches(int sort, int end) {
            return (has[sort * TREE_LENGTH + start] >>> end & 1) != 0;
        }

        private void parseFromStart() {
            for (int sort = 0; sort < library.ranks; sort++) {
                has[sort * TREE_LENGTH + start] = 0;
                several[sort * TREE_LENGTH + start] = 0;
            }
            if (leaf[start] != NONE) {
                int sort = rules.sortRank(library.typeOf(leaf[start]));
                if (sort != NONE) {
                    add(sort, 1L << start + 1, 0, leaf[start]);
                }
            } else if (rules.atConstant[row[start]] > 0) {
                walk(rules.atConstant[row[start]], 1L << start + 1, 0, true);
            }
            for (int end = start + 1; end <= length; end++) {
                addUnits(end);
                for (int sort = 0; sort < library.ranks; sort++) {
                    if (rules.atSort[sort] > 0 && reaches(sort, end)) {
                        long bit = 1L << end;
                        walk(rules.atSort[sort], bit, several[sort * TREE_LENGTH + start] & bit, false);
                    }
                }
            }
        }

        /** From a node of the rules, reached at these ends, to all that can follow; rules of one variable count apart. */
        private void walk(int node, long ends, long severalEnds, boolean withIt) {
            if (rules.born[node] >= limit) {
                return;
            }
            if (withIt) {
                addRules(node, ends, severalEnds);
            }
            int depth = 0;
            stackNode[0] = rules.firstChild[node];
            stackHas[0] = ends;
            stackSeveral[0] = severalEnds;
            for (int turn = 0; turn < TURNS && depth >= 0; turn++) {
                int child = stackNode[depth];
                if (child == 0) {
                    depth--;
                    continue;
                }
                stackNode[depth] = rules.sibling[child];
                if (rules.born[child] < limit && step(child, depth)) {
                    depth++;
                    addRules(child, stackHas[depth], stackSeveral[depth]);
                    stackNode[depth] = rules.firstChild[child];
                }
            }
        }

        /** Puts on the stack at which ends a child is reached; false when at none. */
        private boolean step(int child, int depth) {
            long ends = stackHas[depth];
            long severalEnds = stackSeveral[depth];
            long reached = 0;
            long severalReached = 0;
            int key = rules.key[child];
            if (key >= 0) {
                reached = (ends & where[key]) << 1;
                severalReached = (severalEnds & where[key]) << 1;
            } else {
                for (int k = start + 1; k < length; k++) {
                    if ((ends >>> k & 1) != 0) {
                        long more = has[~key * TREE_LENGTH + k];
                        boolean twice = (severalEnds >>> k & 1) != 0;
                        severalReached |= reached & more | (twice ? more : several[~key * TREE_LENGTH + k]);
                        reached |= more;
                    }
                }
            }
            if (reached == 0 || depth + 1 >= stackNode.length) {
                return false;
            }
            stackHas[depth + 1] = reached;
            stackSeveral[depth + 1] = severalReached;
            return true;
        }

        private void addRules(int node, long ends, long severalEnds) {
            int rule = rules.firstRule[node];
            for (int turn = 0; turn < STATEMENTS && rule > 0; turn++) {
                if (rule - 1 < limit) {
                    add(rules.sortRank(library.typeOf(rule - 1)), ends, severalEnds, rule - 1);
                }
                rule = rules.nextRule[rule - 1];
            }
        }

        private void add(int sort, long ends, long severalEnds, int statement) {
            int cell = sort * TREE_LENGTH + start;
            long fresh = ends & ~has[cell];
            several[cell] |= severalEnds | ends & has[cell];
            has[cell] |= ends;
            for (int end = start + 1; end <= length; end++) {
                if ((fresh >>> end & 1) != 0) {
                    madeBy[sort * SPANS + end * (end - 1) / 2 + start] = statement;
                }
            }
        }

        int ruleOf(int sort, int from, int to) {
            return madeBy[sort * SPANS + to * (to - 1) / 2 + from];
        }

        /** Adds the trees by rules of one variable, which may go round, until no count changes. */
        private void addUnits(int end) {
            if (!hasUnits(end)) {
                return;
            }
            for (int sort = 0; sort < library.ranks; sort++) {
                long many = several[sort * TREE_LENGTH + start] >>> end & 1;
                base[sort] = reaches(sort, end) ? 1 + (int) many : 0;
                total[sort] = base[sort];
            }
            boolean changed = true;
            for (int round = 0; changed && round <= 2 * FIRST_SYMBOLS; round++) {
                changed = countUnits();
            }
            for (int u = 0; u < rules.units && rules.unitRule[u] < limit; u++) {
                if (total[rules.unitFrom[u]] > 0) {
                    int to = rules.sortRank(library.typeOf(rules.unitRule[u]));
                    add(to, 1L << end, total[to] > 1 ? 1L << end : 0, rules.unitRule[u]);
                }
            }
        }

        private boolean hasUnits(int end) {
            for (int u = 0; u < rules.units && rules.unitRule[u] < limit; u++) {
                if (reaches(rules.unitFrom[u], end)) {
                    return true;
                }
            }
            return false;
        }

        private boolean countUnits() {
            for (int sort = 0; sort < library.ranks; sort++) {
                next[sort] = base[sort];
            }
            for (int u = 0; u < rules.units && rules.unitRule[u] < limit; u++) {
                int to = rules.sortRank(library.typeOf(rules.unitRule[u]));
                next[to] = Math.min(2, next[to] + total[rules.unitFrom[u]]);
            }
            boolean changed = false;
            for (int sort = 0; sort < library.ranks; sort++) {
                changed |= next[sort] != total[sort];
                total[sort] = next[sort];
            }
            return changed;
        }
    }

    /** The only tree of the row in the chart. */
    static final class Tree {
        private static final int CELLS = 2 * TREE_LENGTH;

        private final Library library;
        private final Assertions assertions;
        private final Chart chart;
        /* A rule, then the tree of its last mandatory hypothesis with all its own, .. , then that of the first one. */
        private final int[] rule = new int[NODES];
        private final int[] from = new int[NODES];
        private final int[] to = new int[NODES];
        private int size;
        private final int[] pattern = new int[NODES];
        private int patternSize;
        private final int[] cells = new int[CELLS];
        private final long[] fits = new long[TREE_LENGTH + 1];
        /* For each variable the part of the row that it stands for. */
        private final int[] spanFrom = new int[SYMBOLS];
        private final int[] spanTo = new int[SYMBOLS];
        private final int[] bound = new int[SYMBOLS];
        private int turn;

        Tree(Library library, Assertions assertions, Chart chart) {
            this.library = library;
            this.assertions = assertions;
            this.chart = chart;
        }

        /** Takes the tree out of the chart, which tells that there is just one. */
        void grow() {
            size = 0;
            int waiting = 0;
            cells[waiting] = cell(chart.goal, 0, chart.length);
            waiting++;
            for (int n = 0; n < NODES && waiting > 0; n++) {
                waiting--;
                int sort = cells[waiting] / (TREE_LENGTH * TREE_LENGTH);
                int start = cells[waiting] / TREE_LENGTH % TREE_LENGTH;
                int end = cells[waiting] % TREE_LENGTH;
                int r = chart.ruleOf(sort, start, end);
                rule[size] = r;
                from[size] = start;
                to[size] = end;
                size++;
                if (library.kind[r] == FLOATING) {
                    continue;
                }
                part(r, start, end);
                int frame = assertions.frameAt[r];
                for (int h = frame; h < frame + assertions.frameSize[r] && waiting < CELLS; h++) {
                    int f = assertions.hypotheses[h];
                    int v = library.variableOf(f);
                    cells[waiting] = cell(library.rank[library.typeOf(f)], spanFrom[v], spanTo[v]);
                    waiting++;
                }
            }
        }

        private static int cell(int sort, int start, int end) {
            return (sort * TREE_LENGTH + start) * TREE_LENGTH + end;
        }

        /** Parts the row from start to end among the variables of a rule. */
        private void part(int r, int start, int end) {
            int first = library.at[r] + 1;
            int count = library.lengthOf(r) - 1;
            fits[count] = 1L << end;
            for (int k = count - 1; k > 0; k--) {
                fits[k] = startsOf(first + k, fits[k + 1], start, end);
            }
            int at = start;
            for (int k = 0; k < count; k++) {
                int next = at + 1;
                int s = library.text[first + k];
                if (library.floats[first + k] != NONE) {
                    long ends = chart.has[sortOf(first + k) * TREE_LENGTH + at] & fits[k + 1];
                    next = Math.min(Long.numberOfTrailingZeros(ends), end);
                    spanFrom[s] = at;
                    spanTo[s] = next;
                }
                at = Math.min(next, end);
            }
        }

        private int sortOf(int symbolAt) {
            int f = library.floats[symbolAt];
            return library.rank[library.text[library.at[f]]];
        }

        /** Where a symbol of a rule can start so that what comes behind it can start after it. */
        private long startsOf(int symbolAt, long after, int start, int end) {
            if (library.floats[symbolAt] == NONE) {
                return chart.where[library.text[symbolAt]] & after >>> 1;
            }
            int row = sortOf(symbolAt) * TREE_LENGTH;
            long starts = 0;
            for (int at = start; at < end; at++) {
                if ((chart.has[row + at] & after) != 0) {
                    starts |= 1L << at;
                }
            }
            return starts;
        }

        /** Behind a node and all of its tree. */
        int behind(int node) {
            int wanted = 1;
            int n = node;
            while (n < size && wanted > 0) {
                int r = rule[n];
                wanted += library.kind[r] == FLOATING ? -1 : assertions.frameSize[r] - 1;
                n++;
            }
            return n;
        }

        /** Keeps the tree as one whose floating hypotheses stand for any. */
        void keepPattern() {
            System.arraycopy(rule, 0, pattern, 0, size);
            patternSize = size;
        }

        /** Whether the tree is the pattern with trees in place of its floating hypotheses, the same for the same. */
        boolean fitsPattern() {
            turn++;
            int n = 0;
            for (int k = 0; k < patternSize; k++) {
                int r = pattern[k];
                if (n >= size) {
                    return false;
                }
                if (library.kind[r] == FLOATING) {
                    if (!binds(library.variableOf(r), n)) {
                        return false;
                    }
                    n = behind(n);
                } else if (r == rule[n]) {
                    n++;
                } else {
                    return false;
                }
            }
            return n == size;
        }

        private boolean binds(int v, int node) {
            if (bound[v] != turn) {
                bound[v] = turn;
                spanFrom[v] = from[node];
                spanTo[v] = to[node];
                return true;
            }
            int count = to[node] - from[node];
            if (spanTo[v] - spanFrom[v] != count) {
                return false;
            }
            for (int k = 0; k < count; k++) {
                if (chart.row[spanFrom[v] + k] != chart.row[from[node] + k]) {
                    return false;
                }
            }
            return true;
        }

        /** Whether the pattern has all variables of the assertion's essential hypotheses. */
        boolean bindsEssentials(int i) {
            int frame = assertions.frameAt[i];
            for (int h = frame; h < frame + assertions.frameSize[i]; h++) {
                int f = assertions.hypotheses[h];
                if (library.kind[f] == FLOATING && bound[library.variableOf(f)] != turn) {
                    return false;
                }
            }
            return true;
        }
    }

    /** Equalities, definitions, and rows without them. */
    static final class Definitions {
        /* Above all symbols: what stands in the place of a variable of the defined rule. */
        private static final int SLOT = SYMBOLS;
        private static final int FIRST_ROOM = 1 << 14;

        private final Library library;
        private final Assertions assertions;
        private final Rules rules;
        private final Chart chart;
        private final Tree tree;
        private final Pile pile;
        private int studied;
        /* Statements' numbers and one more, here and in the next three: 0 stands for none. */
        private final int[] firstUse = new int[STATEMENTS];
        /* The equality that an axiom needs to be a definition, and the rule that it defines then. */
        private final int[] needed = new int[STATEMENTS];
        private final int[] target = new int[STATEMENTS];
        private final int[] definedBy = new int[STATEMENTS];
        private final boolean[] equality = new boolean[STATEMENTS];
        private int equalities;
        private int prepared;
        /* What a defined rule stands for, without definitions, with slots for its variables; FULL when too long. */
        private int[] bodies = new int[FIRST_ROOM];
        private final int[] bodyAt = new int[STATEMENTS];
        private final int[] bodySize = new int[STATEMENTS];
        private int bodiesUsed;
        private final int[] slots = new int[SYMBOLS];
        private int firstTree;
        private int secondTree;

        Definitions(Library library, Assertions assertions, Rules rules, Chart chart, Tree tree, Pile pile) {
            this.library = library;
            this.assertions = assertions;
            this.rules = rules;
            this.chart = chart;
            this.tree = tree;
            this.pile = pile;
        }

        int turn(int i) {
            equality[i] = !equality[i];
            equalities += equality[i] ? 1 : -1;
            Arrays.fill(definedBy, 0);
            prepared = 0;
            bodiesUsed = 0;
            return equalities;
        }

        /** Notes of all statements before the end what holds of them whatever is an equality. */
        void study(int end) {
            for (int i = studied; i < end; i++) {
                if (library.typeOf(i) != rules.provable || library.lengthOf(i) > TREE_LENGTH) {
                    continue;
                }
                chart.takeStatement(i);
                if (chart.countTrees() == 1) {
                    tree.grow();
                    noteUses(i);
                    if (library.kind[i] == AXIOM && !assertions.hasEssential(i) && canDefine(i)) {
                        needed[i] = tree.rule[0] + 1;
                        target[i] = tree.rule[firstTree] + 1;
                    }
                }
            }
            studied = Math.max(studied, end);
        }

        private void noteUses(int i) {
            for (int n = 0; n < tree.size; n++) {
                if (firstUse[tree.rule[n]] == 0) {
                    firstUse[tree.rule[n]] = i + 1;
                }
            }
        }

        /** Whether the axiom, whose tree stands there, is a definition if its first rule is an equality. */
        private boolean canDefine(int i) {
            if (!partSides()) {
                return false;
            }
            int d = tree.rule[firstTree];
            if (library.kind[d] != AXIOM || firstUse[d] != i + 1) {
                return false;
            }
            boolean fits = fillSlots(d) && secondHasNoOther(d);
            clearSlots(d);
            return fits;
        }

        /** Finds the trees of the first rule's two variables: the first one is that which stands first in its symbols. */
        private boolean partSides() {
            int q = tree.rule[0];
            if (library.kind[q] != AXIOM || assertions.frameSize[q] != 2) {
                return false;
            }
            int p = library.at[q] + 1;
            while (p < library.at[q + 1] - 1 && library.floats[p] == NONE) {
                p++;
            }
            boolean inOrder = assertions.hypotheses[assertions.frameAt[q]] == library.floats[p];
            int later = tree.behind(1);
            firstTree = inOrder ? later : 1;
            secondTree = inOrder ? 1 : later;
            return later < tree.size;
        }

        /** Gives the floating hypotheses of the first tree their slots; false when something else stands there. */
        private boolean fillSlots(int d) {
            int count = assertions.frameSize[d];
            for (int k = 1; k <= count; k++) {
                int f = tree.rule[firstTree + k];
                if (library.kind[f] != FLOATING || slots[library.variableOf(f)] != 0) {
                    return false;
                }
                slots[library.variableOf(f)] = SLOT + count - k;
            }
            return true;
        }

        private void clearSlots(int d) {
            for (int k = 1; k <= assertions.frameSize[d]; k++) {
                int f = tree.rule[firstTree + k];
                if (library.kind[f] == FLOATING) {
                    slots[library.variableOf(f)] = 0;
                }
            }
        }

        private boolean secondHasNoOther(int d) {
            int end = tree.behind(secondTree);
            for (int n = secondTree; n < end; n++) {
                int r = tree.rule[n];
                if (r == d || library.kind[r] == FLOATING && slots[library.variableOf(r)] == 0) {
                    return false;
                }
            }
            return true;
        }

        /** The rule that an axiom, which has been studied, defines. */
        int definedRule(int i) {
            if (needed[i] == 0 || !equality[needed[i] - 1] || equality[target[i] - 1]) {
                return NONE;
            }
            return target[i] - 1;
        }

        /** Makes the bodies of all definitions before a statement, which have been studied. */
        void prepare(int end) {
            for (int i = prepared; i < end; i++) {
                int d = definedRule(i);
                if (d == NONE) {
                    continue;
                }
                chart.takeStatement(i);
                if (chart.countTrees() == 1) {
                    makeBody(i, d);
                }
            }
            prepared = Math.max(prepared, end);
        }

        private void makeBody(int i, int d) {
            tree.grow();
            if (!partSides() || !fillSlots(d)) {
                return;
            }
            boolean fits = evaluate(secondTree, tree.behind(secondTree), i);
            clearSlots(d);
            definedBy[d] = i + 1;
            bodySize[d] = FULL;
            if (!fits) {
                return;
            }
            int size = pile.size[0];
            /* Few definitions are the rule: room for all that could be is made only when they come. */
            if (bodiesUsed + size > bodies.length) {
                bodies = Arrays.copyOf(bodies, 2 * bodies.length);
            }
            bodyAt[d] = bodiesUsed;
            bodySize[d] = size;
            System.arraycopy(pile.data, pile.at[0], bodies, bodiesUsed, size);
            bodiesUsed += size;
        }

        /**
         * The row that a part of the tree makes without the definitions before the limit, as the pile's row 0.
         * False when it is too long; a row that is too long but not used does no harm, its size is FULL.
         */
        boolean evaluate(int from, int to, int limit) {
            pile.clear();
            int rows = 0;
            for (int n = to - 1; n >= from; n--) {
                int r = tree.rule[n];
                boolean fits = true;
                if (library.kind[r] == FLOATING) {
                    int v = library.variableOf(r);
                    pile.built[0] = slots[v] == 0 ? v : slots[v];
                    pile.builtSize = 1;
                } else {
                    int taken = assertions.frameSize[r];
                    if (taken > rows) {
                        return false;
                    }
                    rows -= taken;
                    fits = compose(r, rows, limit);
                    pile.low = taken > 0 ? pile.at[rows] : pile.low;
                }
                pile.builtSize = fits ? pile.builtSize : 0;
                if (!pile.put(rows, false)) {
                    return false;
                }
                pile.size[rows] = fits ? pile.builtSize : FULL;
                rows++;
            }
            return rows == 1 && pile.size[0] != FULL;
        }

        /** Builds the row of a rule, or of what it is defined as, from its variables' rows. */
        private boolean compose(int r, int first, int limit) {
            pile.builtSize = 0;
            boolean fits = true;
            if (definedBy[r] == 0 || definedBy[r] > limit) {
                for (int p = library.at[r] + 1; p < library.at[r + 1] && fits; p++) {
                    int f = library.floats[p];
                    fits = f == NONE ? composeSymbol(library.text[p]) : composeRow(first + assertions.placeInFrame(r, f));
                }
                return fits;
            }
            if (bodySize[r] == FULL) {
                return false;
            }
            for (int k = bodyAt[r]; k < bodyAt[r] + bodySize[r] && fits; k++) {
                fits = bodies[k] < SLOT ? composeSymbol(bodies[k]) : composeRow(first + bodies[k] - SLOT);
            }
            return fits;
        }

        private boolean composeSymbol(int s) {
            if (pile.builtSize + 1 >= WITHOUT_LENGTH) {
                return false;
            }
            pile.built[pile.builtSize] = s;
            pile.builtSize++;
            return true;
        }

        private boolean composeRow(int row) {
            int size = pile.size[row];
            if (size == FULL || pile.builtSize + size >= WITHOUT_LENGTH) {
                return false;
            }
            System.arraycopy(pile.data, pile.at[row], pile.built, pile.builtSize, size);
            pile.builtSize += size;
            return true;
        }
    }

    /** What is printed: a draft, which is shown when it is finished. */
    static final class Paper {
        private final Library library;
        private char[] draft = new char[PRINT_LENGTH];
        private int draftLength;
        private boolean overflow;
        private char[] shown = new char[PRINT_LENGTH];
        private int shownLength;

        Paper(Library library) {
            this.library = library;
        }

        void begin() {
            draftLength = 0;
            overflow = false;
        }

        void put(int c) {
            if (draftLength == PRINT_LENGTH) {
                overflow = true;
                return;
            }
            draft[draftLength] = (char) c;
            draftLength++;
        }

        void putBlank() {
            if (draftLength > 0) {
                put(' ');
            }
        }

        void putToken(int c) {
            putBlank();
            put(c);
        }

        void putName(int name) {
            putBlank();
            for (int k = library.nameAt[name]; k < library.nameAt[name + 1] && !overflow; k++) {
                put(library.letters[k]);
            }
        }

        void putSymbol(int s) {
            putName(library.symbolName[s]);
        }

        void putSymbols(int[] symbols, int from, int to) {
            for (int k = from; k < to && !overflow; k++) {
                putSymbol(symbols[k]);
            }
        }

        /** Puts the letters of a number in a packed proof. */
        void putNumber(int n) {
            long before = 0;
            int count = 0;
            for (int rest = (n - 1) / 20; rest > 0 && count < 20; rest = (rest - 1) / 5) {
                before = before * 5 + (rest - 1) % 5;
                count++;
            }
            for (int k = 0; k < count; k++) {
                put('U' + (int) (before % 5));
                before /= 5;
            }
            put('A' + (n - 1) % 20);
        }

        int finish() {
            if (overflow) {
                return FULL;
            }
            char[] old = shown;
            shown = draft;
            draft = old;
            shownLength = draftLength;
            return shownLength;
        }

        int shown(int k) {
            return k >= 0 && k < shownLength ? shown[k] : NONE;
        }
    }
}
