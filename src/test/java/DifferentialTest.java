import java.util.List;

/** Compares the program with the model over texts made by chance from fixed seeds. */
public final class DifferentialTest {
    private final ProofLibrary library = new ProofLibrary();
    private final Model model = new Model();
    private final long seed;
    private final StringBuilder told = new StringBuilder();
    private static int wrong;
    private static final int[] faults = new int[20];
    private static int definitions;
    private static int without;
    private static int unfolded;
    private static int applied;
    private static int singleTrees;
    private static int saved;
    private static int theorems;

    private DifferentialTest(long seed) {
        this.seed = seed;
    }

    private void same(String call, long got, long want) {
        if (got != want) {
            wrong++;
            if (wrong < 20) {
                System.out.println("seed " + seed + ": " + call + " answered " + got + ", due is " + want + "\n" + told);
            }
        }
    }

    private void put(String text) {
        told.append("TEXT ").append(text).append('\n');
        for (int at = 0; at < text.length(); at += 20) {
            int[] n = new int[5];
            for (int k = 0; k < 20; k++) {
                int c = at + k < text.length() ? text.charAt(at + k) : 0;
                n[k / 4] = n[k / 4] << 8 | c;
            }
            same("feed", library.feed(n[0], n[1], n[2], n[3], n[4]), model.feed(n));
        }
        if (text.length() % 20 != 0) {
            same("end", library.end(text.length() % 20), model.end(text.length() % 20));
        }
    }

    private void read(String text) {
        put(text);
        int fault = model.read();
        faults[fault]++;
        same("read", library.read(), fault);
        same("place", library.place(), model.place);
        told.append("answered ").append(fault).append(" at ").append(model.place).append('\n');
    }

    private void printed(String call) {
        StringBuilder b = new StringBuilder();
        for (int k = 0; library.character(k) >= 0; k++) {
            b.append((char) library.character(k));
        }
        if (!b.toString().equals(model.printed)) {
            same(call + " prints " + b + " for " + model.printed, 1, 0);
        }
    }

    private void print(int what, int i, int k) {
        String call = "print(" + what + ", " + i + ", " + k + ")";
        int due = model.print(what, i, k);
        same(call, library.print(what, i, k), due);
        printed(call);
        if (what == 4 && due > 0) {
            theorems++;
            saved += model.printed.indexOf('Z') > 0 ? 1 : 0;
        }
        if (what == 7 && due > 0) {
            without++;
            unfolded += model.printed.equals(model.names(model.now.statements.get(i).symbols)) ? 0 : 1;
        }
    }

    private void compare() {
        int n = model.now.statements.size();
        for (int what = -1; what < 11; what++) {
            same("count(" + what + ")", library.count(what), model.count(what));
        }
        for (int s = -1; s <= model.now.symbols.size(); s++) {
            same("variable(" + s + ")", library.variable(s), model.variable(s));
            print(1, s, 0);
        }
        for (int i = -1; i <= n; i++) {
            compareStatement(i);
        }
        same("check()", library.check(), 1);
    }

    private void compareStatement(int i) {
        same("kind(" + i + ")", library.kind(i), model.kind(i));
        same("length(" + i + ")", library.length(i), model.length(i));
        for (int k = -1; k <= model.length(i); k++) {
            same("symbol(" + i + ", " + k + ")", library.symbol(i, k), model.symbol(i, k));
        }
        for (int what = -1; what < 4; what++) {
            same("frame(" + i + ", " + what + ")", library.frame(i, what), model.frame(i, what));
        }
        for (int k = -1; k <= model.frame(i, 0); k++) {
            same("hypothesis(" + i + ", " + k + ")", library.hypothesis(i, k), model.hypothesis(i, k));
        }
        for (int s = -1; s <= model.now.symbols.size(); s++) {
            for (int t = -1; t <= model.now.symbols.size(); t++) {
                same("apart(" + i + ", " + s + ", " + t + ")", library.apart(i, s, t), model.apart(i, s, t));
            }
        }
        same("rows(" + i + ")", library.rows(i), model.rows(i));
        for (int k = -1; k <= model.rows(i); k++) {
            same("row(" + i + ", " + k + ")", library.row(i, k), model.row(i, k));
            for (int h = -1; h < 4; h++) {
                same("from(" + i + ", " + k + ", " + h + ")", library.from(i, k, h), model.from(i, k, h));
            }
            print(3, i, k);
        }
        for (int k = -1; k <= model.now.statements.size(); k++) {
            same("rests(" + i + ", " + k + ")", library.rests(i, k), model.rests(i, k));
        }
        same("size(" + i + ")", library.size(i), model.size(i));
        for (int what = -1; what < 9; what++) {
            if (what != 1) {
                print(what, i, 0);
            }
        }
        int trees = model.trees(i);
        singleTrees += trees == 1 ? 1 : 0;
        same("trees(" + i + ")", library.trees(i), trees);
        int d = model.definition(i);
        definitions += d >= 0 ? 1 : 0;
        same("definition(" + i + ")", library.definition(i), d);
    }

    private void run() {
        Texts texts = new Texts(seed);
        int most = texts.mode == 0 ? 14 : 30;
        for (int n = 0; n < 4; n++) {
            String text = texts.next(4 + texts.chance.nextInt(most), model.now);
            for (int spoiled = 0; spoiled < 6; spoiled++) {
                String bad = texts.spoil(text);
                if (bad.length() > 0) {
                    Model.State before = model.now;
                    read(bad);
                    if (model.now != before) {
                        text = texts.next(4 + texts.chance.nextInt(10), model.now);
                    }
                }
            }
            for (String bad : new java.util.ArrayList<>(texts.rejected)) {
                Model.State before = model.now;
                read(bad);
                if (model.now != before) {
                    text = "";
                    break;
                }
            }
            read(text);
            for (int k = 0; k < 3; k++) {
                int i = texts.chance.nextInt(model.now.statements.size() + 2) - 1;
                same("equate(" + i + ")", library.equate(i), model.equate(i));
                told.append("equate ").append(i).append('\n');
            }
            if (n == 0 && model.statementNamed("we") >= 0 && !model.equalities.contains(model.statementNamed("we"))) {
                same("equate", library.equate(model.statementNamed("we")), model.equate(model.statementNamed("we")));
            }
            compare();
            for (int k = 0; k < 12 && !model.now.statements.isEmpty(); k++) {
                apply(texts);
            }
            for (int k = 0; k < 6 && !model.now.statements.isEmpty(); k++) {
                find(texts);
            }
        }
    }

    private void find(Texts texts) {
        int what = texts.chance.nextInt(4) - 1;
        List<String> symbols = model.now.symbols;
        String name = texts.chance.nextBoolean() ? symbols.get(texts.chance.nextInt(symbols.size()))
            : model.now.statements.get(texts.chance.nextInt(model.now.statements.size())).label;
        String[] forms = {name, " " + name + "\n", name + " x", "$( " + name + " $)", name + "\u0001", "", "  ", name + "y"};
        put(forms[texts.chance.nextInt(forms.length)]);
        same("find(" + what + ")", library.find(what), model.find(what));
    }

    private void apply(Texts texts) {
        int i = texts.chance.nextInt(model.now.statements.size());
        StringBuilder row = new StringBuilder();
        texts.model.now = model.now;
        for (int s : model.now.statements.get(i).symbols) {
            List<Integer> e = null;
            if (model.now.isVariable.get(s) && texts.chance.nextInt(3) > 0) {
                e = texts.expression(model.symbol(model.now.statements.get(i).floats.get(s), 0), texts.chance.nextInt(3));
            }
            row.append(e == null ? model.now.symbols.get(s) : model.names(e)).append(' ');
        }
        int spoil = texts.chance.nextInt(20);
        put(spoil == 0 ? row + "nothing" : spoil == 1 ? row + "\u0003" : spoil == 2 ? "" : row.toString());
        if (texts.chance.nextInt(4) == 0) {
            i = texts.chance.nextInt(model.now.statements.size() + 1);
        }
        int due = model.apply(i);
        applied += due >= 0 ? 1 : 0;
        same("apply(" + i + ")", library.apply(i), due);
        printed("apply");
    }

    public static void main(String[] args) {
        long from = args.length > 0 ? Long.parseLong(args[0]) : 1;
        long to = args.length > 1 ? Long.parseLong(args[1]) : 150;
        for (long seed = from; seed <= to && wrong == 0; seed++) {
            new DifferentialTest(seed).run();
        }
        if (args.length > 0) {
            System.out.println("faults " + java.util.Arrays.toString(faults) + " definitions " + definitions + " without "
                + without + " unfolded " + unfolded + " applied " + applied + " single trees " + singleTrees + " theorems "
                + theorems + " saved " + saved);
        }
        if (wrong > 0) {
            System.exit(1);
        }
    }
}
