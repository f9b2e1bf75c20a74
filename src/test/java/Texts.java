import java.util.ArrayDeque;
import java.util.ArrayList;
import java.util.Arrays;
import java.util.Deque;
import java.util.HashMap;
import java.util.HashSet;
import java.util.IdentityHashMap;
import java.util.List;
import java.util.Map;
import java.util.Random;
import java.util.Set;

/** Makes texts by chance, from a seed, that a library can read after those that it has read. */
final class Texts {
    static final class Node {
        int statement;
        List<Node> kids = new ArrayList<>();
        List<Integer> row;
        int size = 1;
    }

    final Random chance;
    /** What there is most of: 1 syntax axioms, 2 definitions, 3 theorems, 4 hypotheses and what is apart. */
    final int mode;
    final Model model = new Model();
    private final Deque<Model.State> scopes = new ArrayDeque<>();
    private final StringBuilder text = new StringBuilder();
    private int labels;
    private int defined;
    private final List<Node> pool = new ArrayList<>();
    /** Texts that end in a statement that is faulty. */
    final List<String> rejected = new ArrayList<>();

    Texts(long seed) {
        chance = new Random(seed);
        mode = chance.nextInt(5);
    }

    /** A text that reads without fault behind what the model has read. */
    String next(int statements, Model.State base) {
        model.now = base.copy();
        scopes.clear();
        rejected.clear();
        text.setLength(0);
        if (base.symbols.isEmpty()) {
            add("$c |- wff s t ( ) -> -. = , a b $.");
            add("$v p q r x y z $.");
            add("fp $f wff p $. fq $f wff q $.");
            if (chance.nextBoolean()) {
                add("wi $a wff ( p -> q ) $. wn $a wff -. p $. we $a wff ( p = q ) $.");
                add("${ mp1 $e |- p $. mp2 $e |- ( p -> q ) $. mp $a |- q $. $}");
            }
        }
        for (int n = 0; n < statements; n++) {
            statement();
        }
        while (!scopes.isEmpty()) {
            add("$}");
        }
        return text.toString();
    }

    boolean add(String part) {
        Model.State before = model.now.copy();
        Deque<Model.State> open = new ArrayDeque<>(scopes);
        Model.TextReader reader = model.new TextReader(part);
        reader.scopes = scopes;
        try {
            reader.run();
        } catch (Model.Fault f) {
            if (f.code != 4 || f.place != part.length()) {
                if (rejected.size() < 40) {
                    rejected.add(text + part);
                }
                model.now = before;
                scopes.clear();
                scopes.addAll(open);
                return false;
            }
        }
        text.append(part).append(" \n\t ".charAt(chance.nextInt(4)));
        if (chance.nextInt(12) == 0) {
            text.append("$( ").append(chance.nextBoolean() ? "a $x " : "").append("$) ");
        }
        return true;
    }

    private String label() {
        labels++;
        return "l" + labels + "-._".charAt(chance.nextInt(3));
    }

    private void statement() {
        int sort = chance.nextInt(22);
        if (mode > 0 && chance.nextInt(3) > 0) {
            int[][] favoured = {{}, {10, 11, 8, 5}, {12, 12, 8, 9}, {15, 15, 15, 8}, {0, 2, 4, 5, 7, 15}};
            sort = favoured[mode][chance.nextInt(favoured[mode].length)];
        }
        switch (sort) {
            case 0:
                add("${");
                return;
            case 1:
            case 2:
                if (!scopes.isEmpty()) {
                    add("$}");
                }
                return;
            case 3:
                add("$v " + pick("p q r x y z u v w") + " $.");
                return;
            case 4:
                add("$d " + someVariables() + " $.");
                return;
            case 5:
            case 6:
                add(label() + " $f " + pick("wff wff wff s t |-") + " " + pick("p q r x y z u v w") + " $.");
                return;
            case 7:
                add(label() + " $e " + provable() + " $.");
                return;
            case 8:
            case 9:
                add(label() + " $a " + provable() + " $.");
                return;
            case 10:
            case 11:
                add(label() + " $a " + pick("wff wff wff s t a |-") + " " + body() + " $.");
                return;
            case 12:
            case 13:
                define();
                return;
            case 14:
                add(label() + " $p " + provable() + " $= " + openProof() + " $.");
                return;
            default:
                theorem();
        }
    }

    private String pick(String words) {
        String[] all = words.split(" ");
        return all[chance.nextInt(all.length)];
    }

    private List<Integer> typedVariables() {
        return new ArrayList<>(model.activeFloats().keySet());
    }

    private String someVariables() {
        List<Integer> all = new ArrayList<>(model.now.activeVariables);
        StringBuilder b = new StringBuilder();
        for (int n = 2 + chance.nextInt(3); n > 0 && !all.isEmpty(); n--) {
            b.append(model.now.symbols.get(all.remove(chance.nextInt(all.size())))).append(' ');
        }
        return b.toString().trim();
    }

    private String body() {
        StringBuilder b = new StringBuilder();
        List<Integer> variables = typedVariables();
        for (int n = chance.nextInt(5); n >= 0; n--) {
            if (!variables.isEmpty() && chance.nextInt(3) > 0) {
                b.append(model.now.symbols.get(variables.get(chance.nextInt(variables.size())))).append(' ');
            } else {
                b.append(pick("( ) -> -. = , a b")).append(' ');
            }
        }
        return b.toString().trim();
    }

    private String provable() {
        if (chance.nextInt(5) == 0) {
            return pick("|- |- wff s") + " " + body();
        }
        List<Integer> e = expression(model.symbolNamed("wff"), 1 + chance.nextInt(4));
        return e == null ? "|- " + body() : "|- " + model.names(e);
    }

    /** A row that the grammar makes, without its sort, or null. */
    List<Integer> expression(int sort, int depth) {
        List<Integer> options = new ArrayList<>();
        for (Map.Entry<Integer, Integer> f : model.activeFloats().entrySet()) {
            if (model.symbol(f.getValue(), 0) == sort) {
                options.add(f.getValue());
            }
        }
        for (int i = 0; i < model.now.statements.size(); i++) {
            if (model.symbol(i, 0) == sort && model.isRule(i) && (depth > 0 || model.now.statements.get(i).hyps.isEmpty())) {
                options.add(i);
            }
        }
        if (options.isEmpty()) {
            return null;
        }
        int rule = options.get(chance.nextInt(options.size()));
        Model.Statement s = model.now.statements.get(rule);
        List<Integer> made = new ArrayList<>();
        if (s.kind == 0) {
            made.add(s.symbols.get(1));
            return made;
        }
        for (int v : s.symbols.subList(1, s.symbols.size())) {
            if (!model.now.isVariable.get(v)) {
                made.add(v);
                continue;
            }
            List<Integer> part = expression(model.symbol(s.floats.get(v), 0), depth - 1);
            if (part == null) {
                return null;
            }
            made.addAll(part);
        }
        return made;
    }

    private void define() {
        List<Integer> variables = typedVariables();
        variables.removeIf(v -> model.symbol(model.activeFloats().get(v), 0) != model.symbolNamed("wff"));
        if (!scopes.isEmpty() && chance.nextInt(4) > 0 || model.symbolNamed("=") < 0) {
            return;
        }
        StringBuilder own = new StringBuilder();
        List<Integer> used = new ArrayList<>();
        for (int n = chance.nextInt(3); n > 0 && !variables.isEmpty(); n--) {
            int v = variables.remove(chance.nextInt(variables.size()));
            used.add(v);
            own.append(' ').append(model.now.symbols.get(v));
        }
        String d = "d" + defined;
        if (scopes.isEmpty()) {
            defined++;
            add("$c " + d + " $.");
        } else {
            d = "d" + chance.nextInt(defined + 1);
        }
        add(label() + " $a wff " + d + own + " $.");
        for (int tries = 0; tries < 20; tries++) {
            List<Integer> e = expression(model.symbolNamed("wff"), 1 + chance.nextInt(3));
            if (e == null) {
                return;
            }
            Set<Integer> extra = new HashSet<>(e);
            extra.removeIf(v -> !model.now.isVariable.get(v) || used.contains(v));
            if (!extra.isEmpty() && chance.nextInt(20) > 0) {
                continue;
            }
            String left = d + own;
            String right = model.names(e);
            if (chance.nextInt(15) == 0) {
                String swap = left;
                left = right;
                right = swap;
            }
            add(label() + " $a |- ( " + left + " = " + right + " ) $.");
            return;
        }
    }

    private String openProof() {
        StringBuilder b = new StringBuilder();
        List<String> usable = new ArrayList<>();
        for (int i = 0; i < model.now.statements.size(); i++) {
            if (model.isAssertion(i) || model.now.activeHyps.contains(i)) {
                usable.add(model.now.statements.get(i).label);
            }
        }
        if (chance.nextBoolean() || usable.isEmpty()) {
            for (int n = chance.nextInt(4); n > 0 && !usable.isEmpty(); n--) {
                b.append(usable.get(chance.nextInt(usable.size()))).append(' ');
            }
            return b.append('?').toString();
        }
        b.append("( ").append(usable.get(chance.nextInt(usable.size()))).append(" ) ");
        for (int n = chance.nextInt(6); n > 0; n--) {
            b.append(pick("A B C AZ BZ D ? CZ"));
        }
        return b.append('?').toString();
    }

    // theorems that hold

    private Node node(int statement, List<Node> kids, List<Integer> row) {
        Node n = new Node();
        n.statement = statement;
        n.kids.addAll(kids);
        n.row = row;
        for (Node k : kids) {
            n.size += k.size;
        }
        return n;
    }

    private void theorem() {
        pool.clear();
        for (int h : model.now.activeHyps) {
            pool.add(node(h, new ArrayList<>(), model.now.statements.get(h).symbols));
        }
        for (int n = mode == 3 ? 30 : 12; n > 0; n--) {
            derive();
        }
        List<Node> good = new ArrayList<>();
        for (Node n : pool) {
            if (n.size < 400) {
                good.add(n);
            }
        }
        if (good.isEmpty()) {
            return;
        }
        Node goal = good.get(good.size() - 1 - Math.min(good.size() - 1, chance.nextInt(4)));
        String proof = chance.nextInt(3) == 0 ? plain(goal) : packed(goal);
        add(label() + " $p " + model.names(goal.row) + " $= " + proof + " $.");
    }

    private void derive() {
        List<Integer> assertions = new ArrayList<>();
        for (int i = 0; i < model.now.statements.size(); i++) {
            if (model.isAssertion(i)) {
                assertions.add(i);
            }
        }
        if (assertions.isEmpty()) {
            return;
        }
        int i = assertions.get(chance.nextInt(assertions.size()));
        Model.Statement s = model.now.statements.get(i);
        Map<Integer, List<Integer>> becomes = new HashMap<>();
        Map<Integer, Node> chosen = new HashMap<>();
        for (int h : s.hyps) {
            if (model.kind(h) == 1 && !matchPool(h, becomes, chosen)) {
                return;
            }
        }
        List<Node> kids = new ArrayList<>();
        for (int h : s.hyps) {
            Node k = chosen.get(h);
            if (model.kind(h) == 0) {
                k = term(h, becomes);
            }
            if (k == null || k.row.size() > 120) {
                return;
            }
            kids.add(k);
        }
        pool.add(node(i, kids, Model.replace(s.symbols, becomes)));
    }

    private boolean matchPool(int h, Map<Integer, List<Integer>> becomes, Map<Integer, Node> chosen) {
        List<Integer> pattern = model.now.statements.get(h).symbols;
        for (int tries = 0; tries < 10 && !pool.isEmpty(); tries++) {
            Node n = pool.get(chance.nextInt(pool.size()));
            Map<Integer, List<Integer>> trial = new HashMap<>(becomes);
            if (match(pattern, 0, n.row, 0, trial)) {
                becomes.putAll(trial);
                chosen.put(h, n);
                return true;
            }
        }
        return false;
    }

    private boolean match(List<Integer> pattern, int a, List<Integer> row, int b, Map<Integer, List<Integer>> becomes) {
        if (a == pattern.size()) {
            return b == row.size();
        }
        int s = pattern.get(a);
        if (!model.now.isVariable.get(s)) {
            return b < row.size() && row.get(b) == s && match(pattern, a + 1, row, b + 1, becomes);
        }
        List<Integer> bound = becomes.get(s);
        if (bound != null) {
            int end = b + bound.size();
            return end <= row.size() && row.subList(b, end).equals(bound) && match(pattern, a + 1, row, end, becomes);
        }
        for (int end = b; end <= row.size(); end++) {
            becomes.put(s, row.subList(b, end));
            if (match(pattern, a + 1, row, end, becomes)) {
                return true;
            }
            becomes.remove(s);
        }
        return false;
    }

    private Node term(int h, Map<Integer, List<Integer>> becomes) {
        int type = model.symbol(h, 0);
        int v = model.symbol(h, 1);
        List<Integer> row = becomes.get(v);
        if (row == null) {
            if (chance.nextInt(3) == 0) {
                for (int tries = 0; tries < 6; tries++) {
                    Node n = pool.isEmpty() ? null : pool.get(chance.nextInt(pool.size()));
                    if (n != null && n.row.get(0) == type) {
                        becomes.put(v, n.row.subList(1, n.row.size()));
                        return n;
                    }
                }
            }
            row = expression(type, chance.nextInt(3));
            if (row == null) {
                return null;
            }
            becomes.put(v, row);
        }
        List<Integer> whole = new ArrayList<>();
        whole.add(type);
        whole.addAll(row);
        for (Node n : pool) {
            if (n.row.equals(whole) && chance.nextInt(4) > 0) {
                return n;
            }
        }
        if (whole.size() > 25 || type == model.symbolNamed("|-")) {
            return null;
        }
        List<Model.Tree> trees = model.new Parser(whole, model.activeFloats(), model.now.statements.size()).all();
        if (trees.isEmpty()) {
            return null;
        }
        Node n = fromTree(trees.get(chance.nextInt(trees.size())));
        pool.add(n);
        return n;
    }

    private Node fromTree(Model.Tree t) {
        List<Node> kids = new ArrayList<>();
        Map<Integer, List<Integer>> becomes = new HashMap<>();
        Model.Statement s = model.now.statements.get(t.rule);
        for (int k = 0; k < t.kids.size(); k++) {
            Node kid = fromTree(t.kids.get(k));
            kids.add(kid);
            becomes.put(model.symbol(s.hyps.get(k), 1), kid.row.subList(1, kid.row.size()));
        }
        return node(t.rule, kids, s.kind == 0 ? s.symbols : Model.replace(s.symbols, becomes));
    }

    private String plain(Node n) {
        StringBuilder b = new StringBuilder();
        for (Node k : n.kids) {
            b.append(plain(k)).append(' ');
        }
        return b.append(model.now.statements.get(n.statement).label).toString();
    }

    private String packed(Node goal) {
        Set<Integer> variables = new HashSet<>(goal.row);
        for (int h : model.now.activeHyps) {
            if (model.kind(h) == 1) {
                variables.addAll(model.now.statements.get(h).symbols);
            }
        }
        List<Integer> numbers = new ArrayList<>();
        for (int h : model.now.activeHyps) {
            if (model.kind(h) == 1 || variables.contains(model.symbol(h, 1))) {
                numbers.add(h);
            }
        }
        List<Integer> others = new ArrayList<>();
        collect(goal, numbers, others);
        java.util.Collections.shuffle(others, chance);
        numbers.addAll(others);
        StringBuilder b = new StringBuilder("(");
        for (int o : others) {
            b.append(' ').append(model.now.statements.get(o).label);
        }
        b.append(" ) ");
        IdentityHashMap<Node, Integer> saved = new IdentityHashMap<>();
        Map<Node, Integer> times = new IdentityHashMap<>();
        countTimes(goal, times);
        letters(goal, numbers, saved, times, b);
        return b.toString();
    }

    private void collect(Node n, List<Integer> numbers, List<Integer> others) {
        for (Node k : n.kids) {
            collect(k, numbers, others);
        }
        if (!numbers.contains(n.statement) && !others.contains(n.statement)) {
            others.add(n.statement);
        }
    }

    private void countTimes(Node n, Map<Node, Integer> times) {
        times.merge(n, 1, Integer::sum);
        if (times.get(n) == 1) {
            for (Node k : n.kids) {
                countTimes(k, times);
            }
        }
    }

    private void letters(Node n, List<Integer> numbers, Map<Node, Integer> saved, Map<Node, Integer> times, StringBuilder b) {
        if (saved.containsKey(n) && chance.nextInt(5) > 0) {
            b.append(Model.letters(numbers.size() + saved.get(n) + 1));
        } else {
            for (Node k : n.kids) {
                letters(k, numbers, saved, times, b);
            }
            b.append(Model.letters(numbers.indexOf(n.statement) + 1));
            if (model.isAssertion(n.statement) && chance.nextInt(times.get(n) > 1 ? 2 : 20) == 0) {
                saved.put(n, saved.size() + (saved.containsKey(n) ? 0 : 0));
                b.append('Z');
            }
        }
        if (chance.nextInt(15) == 0) {
            b.append(' ');
        }
    }

    /** The text with a token or a character changed, put in, left out, or the end left out. */
    String spoil(String good) {
        if (good.isEmpty()) {
            return "$";
        }
        if (chance.nextInt(8) == 0) {
            int cut = chance.nextInt(good.length() + 1);
            return good.substring(0, cut);
        }
        if (chance.nextInt(4) == 0) {
            int at = chance.nextInt(good.length());
            char c = chance.nextInt(6) == 0 ? (char) chance.nextInt(256) : "$ .ZU?A(){}pfc\n".charAt(chance.nextInt(15));
            return good.substring(0, at) + c + good.substring(chance.nextInt(3) == 0 ? at : at + 1);
        }
        List<String> tokens = new ArrayList<>(Arrays.asList(good.split("\\s+")));
        int changes = 1 + chance.nextInt(2);
        for (int n = 0; n < changes; n++) {
            int at = chance.nextInt(tokens.size());
            String other = chance.nextInt(3) == 0 ? tokens.get(chance.nextInt(tokens.size()))
                : pick("$c $v $f $e $a $p $d $= $. ${ $} $( $) ( ) ? A Z UA YT p q x wff |- fp fq wi zz a.b $x x$ l1- ${ $} $.");
            switch (chance.nextInt(3)) {
                case 0:
                    tokens.set(at, other);
                    break;
                case 1:
                    tokens.add(at, other);
                    break;
                default:
                    tokens.remove(at);
                    if (tokens.isEmpty()) {
                        tokens.add(other);
                    }
            }
        }
        return String.join(" ", tokens);
    }
}
