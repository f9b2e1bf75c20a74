import java.util.ArrayDeque;
import java.util.ArrayList;
import java.util.Arrays;
import java.util.Deque;
import java.util.HashMap;
import java.util.HashSet;
import java.util.LinkedHashMap;
import java.util.List;
import java.util.Map;
import java.util.Set;
import java.util.TreeSet;

/** The document told again in the slowest and plainest way, to compare the program with. */
final class Model {
    static final class Fault extends RuntimeException {
        final int code;
        final int place;

        Fault(int code, int place) {
            super(null, null, false, false);
            this.code = code;
            this.place = place;
        }
    }

    static final class Statement {
        String label;
        int kind;
        List<Integer> symbols = new ArrayList<>();
        /** The floating hypotheses that were active, by variable. */
        Map<Integer, Integer> floats = new HashMap<>();
        List<Integer> hyps = new ArrayList<>();
        Set<List<Integer>> pairs = new HashSet<>();
        int steps;
        Set<Integer> direct = new TreeSet<>();
        List<Integer> rowStatement = new ArrayList<>();
        List<List<Integer>> rowFrom = new ArrayList<>();
        List<List<Integer>> rowSymbols = new ArrayList<>();
        List<Tree> trees;
    }

    static final class Tree {
        int rule;
        List<Tree> kids = new ArrayList<>();
    }

    static final class State {
        List<String> symbols = new ArrayList<>();
        List<Boolean> isVariable = new ArrayList<>();
        List<Statement> statements = new ArrayList<>();
        Set<Integer> activeVariables = new HashSet<>();
        List<Integer> activeHyps = new ArrayList<>();
        Set<List<Integer>> activePairs = new HashSet<>();

        State copy() {
            State c = new State();
            c.symbols.addAll(symbols);
            c.isVariable.addAll(isVariable);
            c.statements.addAll(statements);
            c.activeVariables.addAll(activeVariables);
            c.activeHyps.addAll(activeHyps);
            c.activePairs.addAll(activePairs);
            return c;
        }
    }

    State now = new State();
    StringBuilder tape = new StringBuilder();
    boolean canEnd;
    int place = -1;
    String printed = "";
    Set<Integer> equalities = new HashSet<>();

    int feed(int... n) {
        if (tape.length() + 20 > 60000) {
            canEnd = false;
            return -2;
        }
        for (int v : n) {
            tape.append((char) (v >>> 24)).append((char) (v >>> 16 & 255)).append((char) (v >>> 8 & 255)).append((char) (v & 255));
        }
        canEnd = true;
        return tape.length();
    }

    int end(int n) {
        if (n < 0 || n > 19 || !canEnd) {
            return -1;
        }
        canEnd = false;
        tape.setLength(tape.length() - 20 + n);
        return tape.length();
    }

    private String use() {
        String t = tape.toString();
        tape.setLength(0);
        canEnd = false;
        return t;
    }

    int read() {
        State old = now;
        now = old.copy();
        try {
            new TextReader(use()).run();
            place = -1;
            return 0;
        } catch (Fault f) {
            now = old;
            place = f.place;
            return f.code;
        }
    }

    int statementNamed(String name) {
        for (int i = 0; i < now.statements.size(); i++) {
            if (now.statements.get(i).label.equals(name)) {
                return i;
            }
        }
        return -1;
    }

    int symbolNamed(String name) {
        return now.symbols.indexOf(name);
    }

    boolean isAssertion(int i) {
        return i >= 0 && i < now.statements.size() && now.statements.get(i).kind >= 2;
    }

    boolean isProved(int i) {
        return isAssertion(i) && now.statements.get(i).kind == 3;
    }

    private static List<Integer> pair(int x, int y) {
        return Arrays.asList(Math.min(x, y), Math.max(x, y));
    }

    private int namesLength() {
        int n = 0;
        for (String s : now.symbols) {
            n += s.length();
        }
        for (Statement s : now.statements) {
            n += s.label.length();
        }
        return n;
    }

    private int symbolsOfAll() {
        int n = 0;
        for (Statement s : now.statements) {
            n += s.symbols.size();
        }
        return n;
    }

    int stepsOfAll() {
        int n = 0;
        for (Statement s : now.statements) {
            n += s.steps;
        }
        return n;
    }

    int pairsOfAll() {
        int n = 0;
        for (Statement s : now.statements) {
            n += s.pairs.size();
        }
        return n;
    }

    Map<Integer, Integer> activeFloats() {
        Map<Integer, Integer> floats = new HashMap<>();
        for (int h : now.activeHyps) {
            Statement s = now.statements.get(h);
            if (s.kind == 0) {
                floats.put(s.symbols.get(1), h);
            }
        }
        return floats;
    }

    /** Reads one text, by descent. */
    final class TextReader {
        final String text;
        int at;
        int tokenAt;
        Deque<State> scopes = new ArrayDeque<>();

        TextReader(String text) {
            this.text = text;
        }

        Fault fault(int code) {
            return new Fault(code, tokenAt);
        }

        String raw() {
            while (at < text.length() && " \t\n\f\r".indexOf(text.charAt(at)) >= 0) {
                at++;
            }
            tokenAt = at;
            if (at == text.length()) {
                return null;
            }
            if (text.charAt(at) < 33 || text.charAt(at) > 126) {
                throw fault(1);
            }
            while (at < text.length() && text.charAt(at) >= 33 && text.charAt(at) <= 126) {
                at++;
            }
            return text.substring(tokenAt, at);
        }

        String next() {
            String t = raw();
            while (t != null && t.equals("$(")) {
                do {
                    t = raw();
                    if (t == null || !t.equals("$)") && (t.contains("$(") || t.contains("$)"))) {
                        throw fault(2);
                    }
                } while (!t.equals("$)"));
                t = raw();
            }
            if (t == null) {
                return null;
            }
            if (t.equals("$)")) {
                throw fault(2);
            }
            if (t.contains("$") && !(t.length() == 2 && t.charAt(0) == '$' && "cvfeadp=.{}".indexOf(t.charAt(1)) >= 0)) {
                throw fault(3);
            }
            return t;
        }

        String within() {
            String t = next();
            if (t == null) {
                throw fault(4);
            }
            return t;
        }

        void run() {
            for (String t = next(); t != null; t = next()) {
                statement(t);
            }
            if (!scopes.isEmpty()) {
                throw fault(4);
            }
        }

        void statement(String t) {
            switch (t) {
                case "$c":
                    if (!scopes.isEmpty()) {
                        throw fault(8);
                    }
                    declare(false);
                    return;
                case "$v":
                    declare(true);
                    return;
                case "$d":
                    disjoint();
                    return;
                case "${":
                    if (scopes.size() == 50) {
                        throw fault(5);
                    }
                    scopes.push(now.copy());
                    return;
                case "$}":
                    if (scopes.isEmpty()) {
                        throw fault(4);
                    }
                    State was = scopes.pop();
                    now.activeVariables = was.activeVariables;
                    now.activeHyps = was.activeHyps;
                    now.activePairs = was.activePairs;
                    return;
                default:
                    if (t.contains("$")) {
                        throw fault(4);
                    }
                    labelled(t);
            }
        }

        void newName(String t) {
            if (t.length() > 60 || namesLength() + t.length() > 30000) {
                throw fault(5);
            }
        }

        void declare(boolean variable) {
            int n = 0;
            for (String t = within(); !t.equals("$."); t = within(), n++) {
                if (t.contains("$")) {
                    throw fault(4);
                }
                int s = symbolNamed(t);
                if (s < 0) {
                    newName(t);
                    if (now.symbols.size() == 1000) {
                        throw fault(5);
                    }
                    if (statementNamed(t) >= 0) {
                        throw fault(7);
                    }
                    s = now.symbols.size();
                    now.symbols.add(t);
                    now.isVariable.add(variable);
                } else if (!variable || !now.isVariable.get(s) || now.activeVariables.contains(s)) {
                    throw fault(7);
                }
                if (variable) {
                    now.activeVariables.add(s);
                }
            }
            if (n == 0) {
                throw fault(4);
            }
        }

        void known(int s) {
            if (s < 0 || now.isVariable.get(s) && !now.activeVariables.contains(s)) {
                throw fault(9);
            }
        }

        void disjoint() {
            List<Integer> all = new ArrayList<>();
            for (String t = within(); !t.equals("$."); t = within()) {
                if (t.contains("$")) {
                    throw fault(4);
                }
                int s = symbolNamed(t);
                if (s >= 0 && now.activeVariables.contains(s)) {
                    Set<List<Integer>> more = new HashSet<>(now.activePairs);
                    for (int other : all) {
                        if (other != s) {
                            more.add(pair(s, other));
                        }
                    }
                    if (more.size() > 1000) {
                        throw fault(5);
                    }
                    now.activePairs = more;
                    if (all.contains(s)) {
                        throw fault(7);
                    }
                }
                known(s);
                if (!now.isVariable.get(s)) {
                    throw fault(10);
                }
                all.add(s);
            }
            if (all.size() < 2) {
                throw fault(4);
            }
        }

        void labelled(String label) {
            if (now.statements.size() == 1500) {
                throw fault(5);
            }
            newName(label);
            if (!label.matches("[A-Za-z0-9._-]*")) {
                throw fault(6);
            }
            if (statementNamed(label) >= 0 || symbolNamed(label) >= 0) {
                throw fault(7);
            }
            Statement s = new Statement();
            s.label = label;
            s.floats = activeFloats();
            String k = within();
            if (!Arrays.asList("$f", "$e", "$a", "$p").contains(k)) {
                throw fault(4);
            }
            s.kind = "$f$e$a$p".indexOf(k) / 2;
            String t = within();
            int earlier = namesWith(label);
            for (; !t.contains("$"); t = within()) {
                statementSymbol(s, t);
            }
            boolean enough = s.kind == 0 ? s.symbols.size() == 2 : s.symbols.size() > 0;
            if (!t.equals(s.kind == 3 ? "$=" : "$.") || !enough) {
                throw fault(4);
            }
            if (s.kind >= 2) {
                makeFrame(s);
            }
            if (s.kind == 3) {
                new Proof(s, this).run();
            }
            int number = now.statements.size();
            now.statements.add(s);
            if (s.kind == 0) {
                s.floats = new HashMap<>(s.floats);
                s.floats.put(s.symbols.get(1), number);
            }
            if (s.kind < 2) {
                now.activeHyps = new ArrayList<>(now.activeHyps);
                now.activeHyps.add(number);
            }
            if (earlier < 0) {
                throw new IllegalStateException();
            }
        }

        int namesWith(String label) {
            return namesLength() + label.length();
        }

        void statementSymbol(Statement st, String t) {
            int n = st.symbols.size();
            if (st.kind == 0 && n == 2) {
                throw fault(4);
            }
            int s = symbolNamed(t);
            boolean constant = s >= 0 && !now.isVariable.get(s);
            if (n == 300 || symbolsOfAll() + n == 30000) {
                throw fault(5);
            }
            if (n == 0 && constant) {
                Set<Integer> firsts = new HashSet<>();
                for (Statement other : now.statements) {
                    firsts.add(other.symbols.get(0));
                }
                firsts.add(s);
                if (firsts.size() > 100) {
                    throw fault(5);
                }
            }
            if (st.kind == 0 && n == 1 && st.floats.containsKey(s)) {
                throw fault(7);
            }
            known(s);
            if (n == 0 && !constant || st.kind == 0 && n == 1 && constant) {
                throw fault(10);
            }
            if (st.kind > 0 && !constant && !st.floats.containsKey(s)) {
                throw fault(11);
            }
            if (st.kind == 0 && n == 1) {
                for (Statement other : now.statements) {
                    if (other.kind == 0 && other.symbols.get(1) == s && !other.symbols.get(0).equals(st.symbols.get(0))) {
                        throw fault(12);
                    }
                }
            }
            st.symbols.add(s);
        }

        void makeFrame(Statement s) {
            Set<Integer> variables = new HashSet<>(s.symbols);
            for (int h : now.activeHyps) {
                if (now.statements.get(h).kind == 1) {
                    variables.addAll(now.statements.get(h).symbols);
                }
            }
            variables.removeIf(v -> !now.isVariable.get(v));
            for (int h : now.activeHyps) {
                Statement hyp = now.statements.get(h);
                if (hyp.kind == 1 || variables.contains(hyp.symbols.get(1))) {
                    s.hyps.add(h);
                }
            }
            for (List<Integer> p : now.activePairs) {
                if (variables.containsAll(p)) {
                    s.pairs.add(p);
                }
            }
            if (s.hyps.size() > 60 || pairsOfAll() + s.pairs.size() > 20000) {
                throw fault(5);
            }
        }
    }

    /** One proof. */
    final class Proof {
        final Statement theorem;
        final TextReader reader;
        /** Statement numbers, or -1 - n for saved row n. */
        List<Integer> steps = new ArrayList<>();
        List<Integer> places = new ArrayList<>();
        Set<Integer> savedSteps = new HashSet<>();
        boolean open;

        Proof(Statement theorem, TextReader reader) {
            this.theorem = theorem;
            this.reader = reader;
        }

        int stepNamed(String t) {
            int i = statementNamed(t);
            if (i < 0 || now.statements.get(i).kind < 2 && !now.activeHyps.contains(i)) {
                throw reader.fault(13);
            }
            return i;
        }

        void run() {
            int before = stepsOfAll();
            String t = reader.within();
            if (t.equals("(")) {
                packed(before);
            } else {
                for (; !t.contains("$"); t = reader.within()) {
                    if (t.equals("?")) {
                        open = true;
                        continue;
                    }
                    if (before + steps.size() == 20000 && t.matches("[A-Za-z0-9._-]*")) {
                        throw reader.fault(5);
                    }
                    places.add(reader.tokenAt);
                    steps.add(stepNamed(t));
                }
                if (!t.equals("$.")) {
                    throw reader.fault(4);
                }
            }
            theorem.steps = steps.size();
            for (int s : steps) {
                if (s >= 0 && now.statements.get(s).kind >= 2) {
                    theorem.direct.add(s);
                }
            }
            if (open) {
                theorem.kind = 4;
            } else {
                goThrough();
            }
        }

        void packed(int before) {
            List<Integer> numbers = new ArrayList<>(theorem.hyps);
            int labels = 0;
            for (String t = reader.within(); !t.equals(")"); t = reader.within()) {
                if (t.contains("$")) {
                    throw reader.fault(4);
                }
                if (labels == 300 && t.matches("[A-Za-z0-9._-]*")) {
                    throw reader.fault(5);
                }
                int i = stepNamed(t);
                if (numbers.contains(i)) {
                    throw reader.fault(14);
                }
                numbers.add(i);
                labels++;
            }
            int saved = 0;
            long high = 0;
            boolean canSave = false;
            String t;
            for (t = reader.within(); !t.contains("$"); t = reader.within()) {
                for (int k = 0; k < t.length(); k++) {
                    int at = reader.tokenAt + k;
                    char c = t.charAt(k);
                    if (c >= 'U' && c <= 'Y') {
                        high = high * 5 + c - 'T';
                        canSave = false;
                        if (high > 1000000) {
                            throw new Fault(5, at);
                        }
                    } else if (c >= 'A' && c <= 'T') {
                        long n = high * 20 + c - '@';
                        high = 0;
                        if (n > 1000000 || before + steps.size() + 1 > 20000) {
                            throw new Fault(5, at);
                        }
                        places.add(at);
                        if (n <= numbers.size()) {
                            int i = numbers.get((int) n - 1);
                            steps.add(i);
                            canSave = now.statements.get(i).kind >= 2;
                        } else if (n <= numbers.size() + saved) {
                            steps.add(-1 - (int) (n - numbers.size() - 1));
                            canSave = false;
                        } else {
                            throw new Fault(14, at);
                        }
                    } else if (c == 'Z' && canSave) {
                        if (saved == 300) {
                            throw new Fault(5, at);
                        }
                        saved++;
                        savedSteps.add(steps.size() - 1);
                        canSave = false;
                    } else if (c == '?' && high == 0) {
                        open = true;
                        canSave = false;
                    } else {
                        throw new Fault(14, at);
                    }
                }
            }
            if (!t.equals("$.")) {
                throw reader.fault(4);
            }
            if (high > 0) {
                throw reader.fault(14);
            }
        }

        void goThrough() {
            List<Integer> pile = new ArrayList<>();
            List<Integer> saved = new ArrayList<>();
            for (int n = 0; n < steps.size(); n++) {
                int s = steps.get(n);
                int at = places.get(n);
                if (s < 0) {
                    pile.add(saved.get(-1 - s));
                } else {
                    List<Integer> from = new ArrayList<>();
                    List<Integer> made = makeRow(s, pile, from, at);
                    theorem.rowStatement.add(s);
                    theorem.rowFrom.add(from);
                    theorem.rowSymbols.add(made);
                    pile.add(theorem.rowStatement.size() - 1);
                }
                full(pile, saved, at);
                if (savedSteps.contains(n)) {
                    saved.add(pile.get(pile.size() - 1));
                    full(pile, saved, at);
                }
            }
            if (pile.size() != 1) {
                throw reader.fault(18);
            }
            if (!theorem.rowSymbols.get(pile.get(0)).equals(theorem.symbols)) {
                throw reader.fault(19);
            }
        }

        void full(List<Integer> pile, List<Integer> saved, int at) {
            int symbols = 0;
            for (int r : pile) {
                symbols += theorem.rowSymbols.get(r).size();
                if (theorem.rowSymbols.get(r).size() > 1000) {
                    throw new Fault(5, at);
                }
            }
            for (int r : saved) {
                symbols += theorem.rowSymbols.get(r).size();
            }
            if (pile.size() > 200 || symbols > 40000) {
                throw new Fault(5, at);
            }
        }

        List<Integer> makeRow(int s, List<Integer> pile, List<Integer> from, int at) {
            Statement st = now.statements.get(s);
            if (st.kind < 2) {
                return st.symbols;
            }
            if (pile.size() < st.hyps.size()) {
                throw new Fault(15, at);
            }
            List<Integer> top = pile.subList(pile.size() - st.hyps.size(), pile.size());
            from.addAll(top);
            top.clear();
            Map<Integer, List<Integer>> becomes = new HashMap<>();
            for (int k = 0; k < from.size(); k++) {
                Statement h = now.statements.get(st.hyps.get(k));
                List<Integer> row = theorem.rowSymbols.get(from.get(k));
                if (h.kind == 0) {
                    if (!row.get(0).equals(h.symbols.get(0))) {
                        throw new Fault(16, at);
                    }
                    becomes.put(h.symbols.get(1), row.subList(1, row.size()));
                } else if (!replace(h.symbols, becomes).equals(row)) {
                    throw new Fault(16, at);
                }
            }
            for (List<Integer> p : st.pairs) {
                for (int x : becomes.get(p.get(0))) {
                    for (int y : becomes.get(p.get(1))) {
                        boolean both = now.isVariable.get(x) && now.isVariable.get(y);
                        if (both && (x == y || !now.activePairs.contains(pair(x, y)))) {
                            throw new Fault(17, at);
                        }
                    }
                }
            }
            return replace(st.symbols, becomes);
        }
    }

    static List<Integer> replace(List<Integer> symbols, Map<Integer, List<Integer>> becomes) {
        List<Integer> made = new ArrayList<>();
        for (int s : symbols) {
            if (becomes.containsKey(s)) {
                made.addAll(becomes.get(s));
            } else {
                made.add(s);
            }
        }
        return made;
    }

    int count(int what) {
        int n = 0;
        switch (what) {
            case 0:
                return now.statements.size();
            case 1:
                return now.symbols.size();
            case 2:
                for (boolean v : now.isVariable) {
                    n += v ? 0 : 1;
                }
                return n;
            case 8:
                return stepsOfAll();
            case 9:
                return pairsOfAll();
            default:
                if (what < 0 || what > 9) {
                    return -1;
                }
                for (Statement s : now.statements) {
                    n += s.kind == what - 3 || what == 6 && s.kind == 4 ? 1 : 0;
                }
                return n;
        }
    }

    boolean isStatement(int i) {
        return i >= 0 && i < now.statements.size();
    }

    int kind(int i) {
        return isStatement(i) ? now.statements.get(i).kind : -1;
    }

    int length(int i) {
        return isStatement(i) ? now.statements.get(i).symbols.size() : -1;
    }

    int symbol(int i, int k) {
        return k >= 0 && k < length(i) ? now.statements.get(i).symbols.get(k) : -1;
    }

    int variable(int s) {
        return s < 0 || s >= now.symbols.size() ? -1 : now.isVariable.get(s) ? 1 : 0;
    }

    int find(int what) {
        String t = use();
        for (char c : t.toCharArray()) {
            if (" \t\n\f\r".indexOf(c) < 0 && (c < 33 || c > 126)) {
                return -1;
            }
        }
        String[] parts = tokens(t);
        if (parts.length != 1 || what < 0 || what > 1) {
            return -1;
        }
        return what == 0 ? statementNamed(parts[0]) : symbolNamed(parts[0]);
    }

    private static String[] tokens(String t) {
        List<String> all = new ArrayList<>();
        for (String p : t.split("[ \\t\\n\\f\\r]+")) {
            if (!p.isEmpty()) {
                all.add(p);
            }
        }
        return all.toArray(new String[0]);
    }

    Set<Integer> restsOf(int i) {
        Set<Integer> all = new TreeSet<>();
        for (int d : now.statements.get(i).direct) {
            all.add(d);
            all.addAll(restsOf(d));
        }
        return all;
    }

    int frame(int i, int what) {
        if (!isAssertion(i) || what < 0 || what > 2) {
            return -1;
        }
        Statement s = now.statements.get(i);
        if (what == 2) {
            return s.kind == 4 ? -1 : restsOf(i).size();
        }
        return what == 0 ? s.hyps.size() : s.pairs.size();
    }

    int hypothesis(int i, int k) {
        return isAssertion(i) && k >= 0 && k < now.statements.get(i).hyps.size() ? now.statements.get(i).hyps.get(k) : -1;
    }

    int apart(int i, int s, int t) {
        return !isAssertion(i) ? -1 : now.statements.get(i).pairs.contains(pair(s, t)) ? 1 : 0;
    }

    int rows(int i) {
        return isProved(i) ? now.statements.get(i).rowStatement.size() : -1;
    }

    int row(int i, int k) {
        return k >= 0 && k < rows(i) ? now.statements.get(i).rowStatement.get(k) : -1;
    }

    int from(int i, int k, int h) {
        if (row(i, k) < 0) {
            return -1;
        }
        List<Integer> from = now.statements.get(i).rowFrom.get(k);
        return h >= 0 && h < from.size() ? from.get(h) : -1;
    }

    int rests(int i, int k) {
        return isProved(i) && isAssertion(k) ? restsOf(i).contains(k) ? 1 : 0 : -1;
    }

    long size(int i) {
        if (!isProved(i)) {
            return -1;
        }
        Statement s = now.statements.get(i);
        List<java.math.BigInteger> sizes = new ArrayList<>();
        for (List<Integer> from : s.rowFrom) {
            java.math.BigInteger n = java.math.BigInteger.ONE;
            for (int f : from) {
                n = n.add(sizes.get(f));
            }
            sizes.add(n);
        }
        java.math.BigInteger n = sizes.get(sizes.size() - 1);
        return n.compareTo(java.math.BigInteger.TEN.pow(18)) > 0 ? -2 : n.longValue();
    }

    String names(List<Integer> symbols) {
        StringBuilder b = new StringBuilder();
        for (int s : symbols) {
            b.append(b.length() == 0 ? "" : " ").append(now.symbols.get(s));
        }
        return b.toString();
    }

    int print(int what, int i, int k) {
        if (what == 1) {
            return variable(i) < 0 ? -1 : show(now.symbols.get(i));
        }
        if (!isStatement(i) || what < 0 || what > 7) {
            return -1;
        }
        Statement s = now.statements.get(i);
        switch (what) {
            case 0:
                return show(s.label);
            case 2:
                return show(names(s.symbols));
            case 3:
                return row(i, k) < 0 ? -1 : show(names(s.rowSymbols.get(k)));
            case 4:
                return isProved(i) ? show(packed(i)) : -1;
            case 5:
                return !isProved(i) ? -1 : size(i) > 4000 || size(i) == -2 ? -2 : show(unpacked(i));
            default:
                if (s.symbols.size() > 60) {
                    return -2;
                }
                if (trees(i) != 1) {
                    return -1;
                }
                return what == 6 ? show(treeLabels(s.trees.get(0)).trim()) : printWithout(i);
        }
    }

    private int show(String t) {
        if (t.length() > 24000) {
            return -2;
        }
        printed = t;
        return t.length();
    }

    int character(int k) {
        return k >= 0 && k < printed.length() ? printed.charAt(k) : -1;
    }

    String unpacked(int i) {
        StringBuilder b = new StringBuilder();
        unpack(now.statements.get(i), rows(i) - 1, b);
        return b.toString().trim();
    }

    private void unpack(Statement s, int row, StringBuilder b) {
        for (int f : s.rowFrom.get(row)) {
            unpack(s, f, b);
        }
        b.append(now.statements.get(s.rowStatement.get(row)).label).append(' ');
    }

    /** Each row of the full proof as a text that is the same for rows that are the same likewise. */
    private String likeness(Statement s, int row, String[] memo) {
        if (memo[row] == null) {
            StringBuilder b = new StringBuilder("(").append(s.rowStatement.get(row));
            for (int f : s.rowFrom.get(row)) {
                b.append(likeness(s, f, memo));
            }
            memo[row] = b.append(')').toString().length() > 300 ? digest(b.toString()) : b.toString();
        }
        return memo[row];
    }

    private final Map<String, String> digests = new HashMap<>();

    private String digest(String t) {
        return digests.computeIfAbsent(t, x -> "<" + digests.size() + ">");
    }

    String packed(int i) {
        Statement s = now.statements.get(i);
        String[] memo = new String[rows(i)];
        Set<String> told = new HashSet<>();
        Set<String> again = new HashSet<>();
        List<Object[]> events = new ArrayList<>();
        tell(s, rows(i) - 1, memo, told, again, events);
        List<Integer> numbers = new ArrayList<>(s.hyps);
        StringBuilder b = new StringBuilder("(");
        for (Object[] e : events) {
            int st = (Integer) e[0];
            if (st >= 0 && !numbers.contains(st)) {
                numbers.add(st);
                b.append(' ').append(now.statements.get(st).label);
            }
        }
        b.append(" ) ");
        List<String> saved = new ArrayList<>();
        for (Object[] e : events) {
            int st = (Integer) e[0];
            String like = (String) e[1];
            if (st < 0) {
                b.append(letters(numbers.size() + saved.indexOf(like) + 1));
                continue;
            }
            b.append(letters(numbers.indexOf(st) + 1));
            if (again.contains(like)) {
                b.append('Z');
                saved.add(like);
            }
        }
        return b.toString();
    }

    private void tell(Statement s, int row, String[] memo, Set<String> told, Set<String> again, List<Object[]> events) {
        int st = s.rowStatement.get(row);
        String like = likeness(s, row, memo);
        boolean saves = now.statements.get(st).kind >= 2 && !now.statements.get(st).hyps.isEmpty();
        if (saves && told.contains(like)) {
            again.add(like);
            events.add(new Object[] {-1, like});
            return;
        }
        for (int f : s.rowFrom.get(row)) {
            tell(s, f, memo, told, again, events);
        }
        events.add(new Object[] {st, like});
        told.add(like);
    }

    static String letters(int n) {
        /* Counting up from A is too slow; the number's own definition is tried backwards. */
        StringBuilder b = new StringBuilder();
        b.append((char) ('A' + (n - 1) % 20));
        int rest = (n - (n - 1) % 20 - 1) / 20;
        while (rest > 0) {
            int digit = rest % 5 == 0 ? 5 : rest % 5;
            b.insert(0, (char) ('T' + digit));
            rest = (rest - digit) / 5;
        }
        return b.toString();
    }

    // the grammar

    private int constant(String name) {
        int s = symbolNamed(name);
        return s >= 0 && !now.isVariable.get(s) ? s : -1;
    }

    boolean isRule(int i) {
        Statement s = now.statements.get(i);
        int provable = constant("|-");
        if (s.kind != 2 || s.symbols.get(0) == provable || s.symbols.size() < 2) {
            return false;
        }
        for (int h : s.hyps) {
            if (now.statements.get(h).kind == 1) {
                return false;
            }
        }
        Set<Integer> seen = new HashSet<>();
        for (int v : s.symbols) {
            if (now.isVariable.get(v)) {
                if (!seen.add(v) || now.statements.get(s.floats.get(v)).symbols.get(0) == provable) {
                    return false;
                }
            }
        }
        return true;
    }

    final class Parser {
        final List<Integer> row;
        final Map<Integer, Integer> leaves;
        final List<Integer> rules = new ArrayList<>();
        final int sorts;
        final Map<String, List<Tree>> memo = new HashMap<>();

        Parser(List<Integer> row, Map<Integer, Integer> leaves, int limit) {
            this.row = row;
            this.leaves = leaves;
            Set<Integer> all = new HashSet<>();
            for (int i = 0; i < limit; i++) {
                if (isRule(i)) {
                    rules.add(i);
                    all.add(now.statements.get(i).symbols.get(0));
                }
            }
            sorts = all.size() + 1;
        }

        List<Tree> all() {
            int first = row.get(0);
            int goal = first == constant("|-") ? constant("wff") : first;
            if (goal < 0 || now.isVariable.get(goal)) {
                return new ArrayList<>();
            }
            return find(goal, 1, row.size(), 2 * sorts + 2);
        }

        /** Two trees at most, with so many rules of one variable right above one another at most. */
        List<Tree> find(int sort, int a, int b, int chain) {
            String key = sort + " " + a + " " + b + " " + chain;
            List<Tree> found = memo.get(key);
            if (found != null) {
                return found;
            }
            found = new ArrayList<>();
            if (b == a + 1 && now.isVariable.get(row.get(a))) {
                Integer f = leaves.get(row.get(a));
                if (f != null && now.statements.get(f).symbols.get(0) == sort && sort != constant("|-")) {
                    Tree t = new Tree();
                    t.rule = f;
                    found.add(t);
                }
            }
            for (int r : rules) {
                List<Integer> body = now.statements.get(r).symbols;
                if (body.get(0) != sort || body.size() - 1 > b - a) {
                    continue;
                }
                boolean unit = body.size() == 2 && now.isVariable.get(body.get(1));
                if (!unit || chain > 0) {
                    match(r, 1, a, b, new LinkedHashMap<>(), unit ? chain - 1 : 2 * sorts + 2, found);
                }
                if (found.size() >= 2) {
                    break;
                }
            }
            memo.put(key, found);
            return found;
        }

        void match(int r, int k, int a, int b, Map<Integer, Tree> kids, int chain, List<Tree> found) {
            Statement s = now.statements.get(r);
            if (found.size() >= 2) {
                return;
            }
            if (k == s.symbols.size()) {
                if (a == b) {
                    Tree t = new Tree();
                    t.rule = r;
                    for (int h : s.hyps) {
                        t.kids.add(kids.get(now.statements.get(h).symbols.get(1)));
                    }
                    found.add(t);
                }
                return;
            }
            int v = s.symbols.get(k);
            int left = s.symbols.size() - k - 1;
            if (!now.isVariable.get(v)) {
                if (a < b && row.get(a) == v) {
                    match(r, k + 1, a + 1, b, kids, chain, found);
                }
                return;
            }
            int type = now.statements.get(s.floats.get(v)).symbols.get(0);
            for (int to = left == 0 ? b : a + 1; to <= b - left; to++) {
                if (to <= a) {
                    continue;
                }
                for (Tree kid : find(type, a, to, chain)) {
                    kids.put(v, kid);
                    match(r, k + 1, to, b, kids, chain, found);
                    kids.remove(v);
                }
            }
        }
    }

    List<Tree> treesOf(int i) {
        Statement s = now.statements.get(i);
        if (s.trees == null) {
            s.trees = new Parser(s.symbols, s.floats, i).all();
        }
        return s.trees;
    }

    int trees(int i) {
        return !isStatement(i) ? -1 : length(i) > 60 ? -2 : Math.min(2, treesOf(i).size());
    }

    String treeLabels(Tree t) {
        StringBuilder b = new StringBuilder();
        for (Tree k : t.kids) {
            b.append(treeLabels(k));
        }
        return b.append(now.statements.get(t.rule).label).append(' ').toString();
    }

    int equate(int i) {
        if (!isStatement(i) || !isRule(i) || now.statements.get(i).hyps.size() != 2) {
            return -1;
        }
        if (!equalities.remove(i)) {
            equalities.add(i);
        }
        return equalities.size();
    }

    private static boolean has(Tree t, int rule) {
        if (t.rule == rule) {
            return true;
        }
        for (Tree k : t.kids) {
            if (has(k, rule)) {
                return true;
            }
        }
        return false;
    }

    private void floatsIn(Tree t, Set<Integer> all) {
        if (now.statements.get(t.rule).kind == 0) {
            all.add(t.rule);
        }
        for (Tree k : t.kids) {
            floatsIn(k, all);
        }
    }

    private Tree[] sides(Tree t) {
        Statement q = now.statements.get(t.rule);
        int first = -1;
        for (int s : q.symbols) {
            if (first < 0 && now.isVariable.get(s)) {
                first = s;
            }
        }
        boolean inOrder = now.statements.get(q.hyps.get(0)).symbols.get(1) == first;
        return new Tree[] {t.kids.get(inOrder ? 0 : 1), t.kids.get(inOrder ? 1 : 0)};
    }

    private boolean beginsProvable(int i) {
        return constant("|-") >= 0 && now.statements.get(i).symbols.get(0) == constant("|-");
    }

    int definition(int i) {
        if (!isStatement(i) || now.statements.get(i).kind != 2) {
            return -1;
        }
        if (length(i) > 60) {
            return -2;
        }
        for (int h : now.statements.get(i).hyps) {
            if (now.statements.get(h).kind == 1) {
                return -1;
            }
        }
        if (!beginsProvable(i) || trees(i) != 1 || !equalities.contains(treesOf(i).get(0).rule)) {
            return -1;
        }
        Tree[] sides = sides(treesOf(i).get(0));
        int d = sides[0].rule;
        if (now.statements.get(d).kind != 2 || equalities.contains(d)) {
            return -1;
        }
        Set<Integer> own = new HashSet<>();
        for (Tree k : sides[0].kids) {
            if (now.statements.get(k.rule).kind != 0 || !own.add(k.rule)) {
                return -1;
            }
        }
        for (int j = 0; j < i; j++) {
            if (beginsProvable(j) && length(j) <= 60 && trees(j) == 1 && has(treesOf(j).get(0), d)) {
                return -1;
            }
        }
        Set<Integer> others = new HashSet<>();
        floatsIn(sides[1], others);
        return has(sides[1], d) || !own.containsAll(others) ? -1 : d;
    }

    private static final class TooLong extends RuntimeException {
        TooLong() {
            super(null, null, false, false);
        }
    }

    private Map<Integer, Integer> definers;

    int printWithout(int i) {
        definers = new HashMap<>();
        for (int a = i - 1; a >= 0; a--) {
            int d = definition(a);
            if (d >= 0) {
                definers.put(d, a);
            }
        }
        List<Integer> out = new ArrayList<>();
        out.add(now.statements.get(i).symbols.get(0));
        try {
            tellWithout(treesOf(i).get(0), new HashMap<>(), out);
        } catch (TooLong e) {
            return -2;
        }
        return show(names(out));
    }

    /** A tree, and what stands for its floating hypotheses where it is a definition's. */
    private static final class Closure {
        Tree tree;
        Map<Integer, Closure> places;
    }

    private void tellWithout(Tree t, Map<Integer, Closure> places, List<Integer> out) {
        Statement s = now.statements.get(t.rule);
        if (s.kind == 0) {
            Closure c = places.get(t.rule);
            if (c == null) {
                put(s.symbols.get(1), out);
            } else {
                tellWithout(c.tree, c.places, out);
            }
            return;
        }
        Integer a = definers.get(t.rule);
        if (a != null) {
            Tree[] sides = sides(treesOf(a).get(0));
            Map<Integer, Closure> inner = new HashMap<>();
            for (int k = 0; k < t.kids.size(); k++) {
                Closure c = new Closure();
                c.tree = t.kids.get(k);
                c.places = places;
                inner.put(sides[0].kids.get(k).rule, c);
            }
            tellWithout(sides[1], inner, out);
            return;
        }
        for (int k = 1; k < s.symbols.size(); k++) {
            int v = s.symbols.get(k);
            if (now.isVariable.get(v)) {
                tellWithout(t.kids.get(s.hyps.indexOf(s.floats.get(v))), places, out);
            } else {
                put(v, out);
            }
        }
    }

    private void put(int s, List<Integer> out) {
        if (out.size() == 600) {
            throw new TooLong();
        }
        out.add(s);
    }

    int apply(int i) {
        String t = use();
        if (!isAssertion(i)) {
            return -1;
        }
        for (char c : t.toCharArray()) {
            if (" \t\n\f\r".indexOf(c) < 0 && (c < 33 || c > 126)) {
                return -1;
            }
        }
        List<Integer> row = new ArrayList<>();
        for (String p : tokens(t)) {
            row.add(symbolNamed(p));
        }
        if (row.isEmpty() || row.contains(-1)) {
            return -1;
        }
        if (row.size() > 60 || length(i) > 60) {
            return -2;
        }
        Map<Integer, Integer> leaves = new HashMap<>();
        for (int f = 0; f < now.statements.size(); f++) {
            if (kind(f) == 0) {
                leaves.put(symbol(f, 1), f);
            }
        }
        List<Tree> trees = new Parser(row, leaves, now.statements.size()).all();
        Map<Integer, Tree> bound = new HashMap<>();
        if (trees.size() != 1 || trees(i) != 1 || row.get(0) != symbol(i, 0) || !fits(treesOf(i).get(0), trees.get(0), bound)) {
            return -1;
        }
        List<String> texts = new ArrayList<>();
        for (int h : now.statements.get(i).hyps) {
            Statement e = now.statements.get(h);
            if (e.kind != 1) {
                continue;
            }
            Map<Integer, List<Integer>> becomes = new HashMap<>();
            for (int v : e.symbols) {
                if (now.isVariable.get(v)) {
                    if (!bound.containsKey(v)) {
                        return -1;
                    }
                    List<Integer> made = new ArrayList<>();
                    definers = new HashMap<>();
                    tellWithout(bound.get(v), new HashMap<>(), made);
                    becomes.put(v, made);
                }
            }
            texts.add(names(replace(e.symbols, becomes)));
        }
        return show(String.join(" , ", texts)) == -2 ? -2 : texts.size();
    }

    private boolean fits(Tree pattern, Tree t, Map<Integer, Tree> bound) {
        Statement s = now.statements.get(pattern.rule);
        if (s.kind == 0) {
            Tree other = bound.putIfAbsent(s.symbols.get(1), t);
            return other == null || treeLabels(other).equals(treeLabels(t));
        }
        if (pattern.rule != t.rule) {
            return false;
        }
        for (int k = 0; k < t.kids.size(); k++) {
            if (!fits(pattern.kids.get(k), t.kids.get(k), bound)) {
                return false;
            }
        }
        return true;
    }
}
