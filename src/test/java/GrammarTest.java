/** Promises 22 to 26 and 'The grammar', sentence by sentence: the boundary cases that they name. */
public final class GrammarTest {
    private static void trees(Runs r, String label, int due) {
        r.due("trees of " + label, r.x.trees(r.finds(label, 0)), due);
    }

    private static void tree(Runs r, String label, String due) {
        trees(r, label, 1);
        r.prints(6, r.finds(label, 0), 0, due);
    }

    private static String hypothesis(String label, String symbols) {
        return "${ " + label + " $e " + symbols + " $. $} ";
    }

    /** What is a rule: equate() takes it when it has just two variables, and rows are made by it. */
    private static void rules() {
        Runs r = new Runs("rules");
        r.reads("$c |- wff s k n m j i h $. $v x y p $. fx $f wff x $. fy $f wff y $. fp $f |- p $. "
            + "ok $a s n x y $. twice $a s m x y x $. none $a s $. prov $a |- j x y $. typed $a s i x p $. "
            + "${ e $e s k $. ess $a s h x y $. $} th $p s n x y $= fx fy ok $. open $p s j x y $= ? $. three $a s n x y k $. wk $a wff k $. ");
        String[] labels = {"fx", "ok", "twice", "none", "prov", "typed", "e", "ess", "th", "open", "three", "wk"};
        int[] due = {-1, 1, -1, -1, -1, -1, -1, -1, -1, -1, 2, -1};
        for (int k = 0; k < labels.length; k++) {
            r.due("equate(" + labels[k] + ")", r.x.equate(r.finds(labels[k], 0)), due[k]);
        }
        r.due("equate(three)", r.x.equate(r.finds("three", 0)), 1);
        r.due("equate(ok)", r.x.equate(r.finds("ok", 0)), 0);
        r.due("equate(ok)", r.x.equate(r.finds("ok", 0)), 1);
        String[] rows = {"n k k", "m k k k", "i k k", "h k k", "j k k", "n k k k", "k", "n k", "n x y", "n x p", "m x y x"};
        String[] made = {"wk wk ok", "", "", "", "", "wk wk three", "", "", "fx fy ok", "", ""};
        for (int k = 0; k < rows.length; k++) {
            r.reads(hypothesis("g" + k, "s " + rows[k]));
            if (made[k].isEmpty()) {
                trees(r, "g" + k, 0);
            } else {
                tree(r, "g" + k, made[k]);
            }
        }
        r.reads(hypothesis("alone", "s"));
        trees(r, "alone", 0);
    }

    /** Axioms before the statement, and the floating hypotheses that are active where it stands. */
    private static void whatCounts() {
        Runs r = new Runs("what counts for a statement");
        r.reads("$c |- wff n k $. $v x y $. g0 $a |- k $. h0 $a wff k $. g1 $a |- k $. ${ f1 $f wff x $. wn $a wff n x $. a1 $a |- n x $. $} "
            + "${ f2 $f wff x $. a2 $a |- n x $. ${ e2 $e |- n n x $. t2 $p |- x $= ? $. $} $} g2 $a |- n k $. h1 $a wff n k $. g3 $a |- n k $. h2 $a wff n n k $. ");
        trees(r, "g0", 0);
        trees(r, "h0", 0);
        tree(r, "g1", "h0");
        tree(r, "f1", "f1");
        trees(r, "wn", 0);
        tree(r, "a1", "f1 wn");
        tree(r, "f2", "f2");
        tree(r, "a2", "f2 wn");
        tree(r, "e2", "f2 wn wn");
        tree(r, "t2", "f2");
        tree(r, "g2", "h0 wn");
        tree(r, "h1", "h0 wn");
        trees(r, "g3", 2);
        trees(r, "h2", 2);
        r.reads("fy $f wff y $. all $a wff y $. c0 $a |- k $. $v z $. fz $f wff z $. ");
        tree(r, "fy", "fy");
        tree(r, "all", "fy");
        trees(r, "c0", 2);
        trees(r, "fz", 2);
        Runs q = new Runs("a floating hypothesis beside the axioms");
        q.reads("$c wff s $. $v x y z $. fx $f wff x $. fy $f s y $. sw $a wff y $. fz $f s z $. " + hypothesis("f2", "wff z") + hypothesis("f3", "s z"));
        tree(q, "fx", "fx");
        tree(q, "fz", "fz");
        tree(q, "f2", "fz sw");
        tree(q, "f3", "fz");
    }

    /** |- is no sort; it is looked at as wff, if that is a constant. */
    private static void provable() {
        Runs r = new Runs("no wff");
        r.reads("$c |- a $. $v wff x $. fw $f a wff $. fx $f |- x $. ak $a a a a $. g $a |- a $. h $a |- wff $. i $a |- x $. " + hypothesis("j", "a wff"));
        String[] labels = {"fw", "fx", "ak", "g", "h", "i", "j"};
        int[] due = {1, 0, 0, 0, 0, 0, 1};
        for (int k = 0; k < labels.length; k++) {
            trees(r, labels[k], due[k]);
        }
        Runs q = new Runs("wff that comes later");
        q.reads("$c |- a $. g $a |- a $. ");
        trees(q, "g", 0);
        q.reads("$c wff $. h $a |- a $. wa $a wff a $. i $a |- a $. j $a wff a $.");
        trees(q, "g", 0);
        trees(q, "h", 0);
        tree(q, "i", "wa");
        tree(q, "j", "wa");
        Runs p = new Runs("no |-");
        p.reads("$c wff a $. wa $a wff a $. i $a wff a $. ");
        tree(p, "i", "wa");
        p.due("definition(i)", p.x.definition(1), -1);
        p.reads("$c |- $. g $a |- a $. e $a |- $. $v v $. fv $f |- v $. h $a |- v $. ");
        trees(p, "g", 2);
        trees(p, "e", 0);
        trees(p, "fv", 0);
        trees(p, "h", 0);
    }

    /** 0, 1, 2: for more, or without end. */
    private static void howMany() {
        Runs r = new Runs("how many");
        r.reads("$c |- wff s t u k j $. $v x y z w $. fx $f wff x $. fy $f s y $. fz $f t z $. fw $f u w $. a $a s k $. b $a s k $. up $a wff y $. "
            + "g $a |- k $. " + hypothesis("h", "s k") + "e $a |- j $. tj $a t j $. ut $a u z $. tu $a t w $. " + hypothesis("i", "t j")
            + hypothesis("l", "u j") + hypothesis("m", "t k") + "wj $a wff j $. n $a |- j $. o $a wff z $. q $a |- j $. ");
        trees(r, "g", 2);
        trees(r, "h", 2);
        trees(r, "e", 0);
        trees(r, "i", 2);
        trees(r, "l", 2);
        trees(r, "m", 0);
        tree(r, "n", "wj");
        trees(r, "q", 2);
        Runs q = new Runs("two above one another");
        q.reads("$c |- wff s k n $. $v x y $. fx $f wff x $. fy $f s y $. wk $a wff k $. w2 $a wff x y $. sk $a s k $. ws $a s x y $. g $a |- k k $. h $a |- k k k $. "
            + "wn $a wff n y $. i $a |- n k k k $. j $a |- n k $. ");
        tree(q, "g", "wk sk w2");
        trees(q, "h", 2);
        trees(q, "i", 2);
        tree(q, "j", "sk wn");
        circle();
    }

    /** Ninety-eight sorts, each made of the one before, then the first of the last: all that is made is without end. */
    private static void circle() {
        StringBuilder text = new StringBuilder("$c k j ");
        StringBuilder variables = new StringBuilder("$v ");
        StringBuilder floating = new StringBuilder();
        StringBuilder rules = new StringBuilder();
        StringBuilder chain = new StringBuilder("base");
        for (int n = 0; n < 98; n++) {
            text.append("s").append(n).append(' ');
            variables.append("v").append(n).append(' ');
            floating.append("f").append(n).append(" $f s").append(n).append(" v").append(n).append(" $. ");
            if (n > 0) {
                rules.append("u").append(n).append(" $a s").append(n).append(" v").append(n - 1).append(" $. ");
                chain.append(" u").append(n);
            }
        }
        Runs r = new Runs("a chain and a circle of sorts");
        r.reads(text + "$. " + variables + "$. " + floating + "base $a s0 k $. " + rules + hypothesis("g", "s97 k"));
        tree(r, "g", chain.toString());
        r.reads("back $a s0 v97 $. " + hypothesis("h", "s97 k") + hypothesis("h0", "s0 k") + hypothesis("i", "s97 j") + hypothesis("l", "s1 k k"));
        tree(r, "g", chain.toString());
        trees(r, "h", 2);
        trees(r, "h0", 2);
        trees(r, "i", 0);
        trees(r, "l", 0);
        Runs q = new Runs("a circle that nothing reaches");
        q.reads("$c s t u k $. $v x y $. fx $f s x $. fy $f t y $. a $a s y $. b $a t x $. c $a u k $. " + hypothesis("d", "u k") + hypothesis("e", "s k"));
        tree(q, "d", "c");
        trees(q, "e", 0);
    }

    /** Where 60 symbols are the most, the first one counts. */
    private static void sixty() {
        Runs r = new Runs("sixty");
        String n58 = Runs.times("n ", 58);
        r.reads("$c |- wff n k = $. $v x y $. fx $f wff x $. fy $f wff y $. wk $a wff k $. wn $a wff n x $. we $a wff = x y $. "
            + "a $a |- " + n58 + "k $. b $a |- " + n58 + "n k $. lo $a wff " + n58 + "n $. c $a wff " + n58 + "n $. d $a wff " + n58 + "n n $. "
            + "${ e $e |- " + n58 + "n x $. e2 $e |- " + n58 + "x $. p $p |- " + n58 + "n x $= e $. $} ");
        String tree58 = Runs.times(" wn", 58);
        tree(r, "a", "wk" + tree58);
        r.prints(7, r.finds("a", 0), 0, "|- " + n58 + "k");
        tree(r, "c", "lo");
        tree(r, "e2", "fx" + tree58);
        r.due("definition(a)", r.x.definition(r.finds("a", 0)), -1);
        r.due("definition(b)", r.x.definition(r.finds("b", 0)), -2);
        r.due("definition(d), no |-", r.x.definition(r.finds("d", 0)), -2);
        r.due("definition(e), no axiom", r.x.definition(r.finds("e", 0)), -1);
        r.due("definition(p), no axiom", r.x.definition(r.finds("p", 0)), -1);
        String[] more = {"b", "d", "e", "p"};
        for (String label : more) {
            trees(r, label, -2);
            r.printsNot(6, r.finds(label, 0), 0, -2);
            r.printsNot(7, r.finds(label, 0), 0, -2);
        }
        r.due("check()", r.x.check(), 1);
    }

    /** Two sorts with trees all over a row of sixty symbols. */
    private static void twoSorts() {
        Runs r = new Runs("two sorts");
        r.reads("$c |- wff s l i j k $. $v x y $. fx $f wff x $. fy $f s y $. wk $a wff k $. sj $a s j $. wl $a wff l y x $. si $a s i x y $. "
            + "a $a |- " + Runs.times("l j ", 29) + "k $. b $a |- l " + Runs.times("i k ", 28) + "j k $. "
            + "c $a |- " + Runs.times("l i k j ", 14) + "l j k $. d $a |- " + Runs.times("l i k ", 14) + "k $. ");
        tree(r, "a", "wk" + Runs.times(" sj wl", 29));
        for (int n = 0; n < 29; n++) {
            r.reads("a" + n + " $a |- " + Runs.times("l j ", n) + "k $. ");
            tree(r, "a" + n, "wk" + Runs.times(" sj wl", n));
        }
        tree(r, "b", "wk " + Runs.times("wk ", 28) + "sj" + Runs.times(" si", 28) + " wl");
        tree(r, "c", "wk sj wl" + Runs.times(" wk sj si wl", 14));
        trees(r, "d", 0);
        r.prints(7, r.finds("c", 0), 0, "|- " + Runs.times("l i k j ", 14) + "l j k");
        r.due("check()", r.x.check(), 1);
    }

    private static final String TERMS = "$c |- wff s = ~ ( ) n d d2 d3 d4 k l z $. $v a b c $. fa $f s a $. fb $f s b $. fc $f s c $. sk $a s k $. "
        + "sn $a s n a $. sp $a s ( a b ) $. we $a wff a = b $. wt $a wff b ~ a $. sd $a s d a $. s2 $a s d2 a b $. s3 $a s d3 $. s4 $a s d4 a $. wl $a wff l a $. ";

    private static void defines(Runs r, String label, String rule) {
        r.due("definition of " + label, r.x.definition(r.finds(label, 0)), rule.isEmpty() ? -1 : r.finds(rule, 0));
    }

    /** A new library with the terms, both equalities, and more. */
    private static Runs withTerms(String text) {
        Runs r = new Runs("definition " + text);
        r.reads(TERMS + text);
        r.due("equate(we)", r.x.equate(r.finds("we", 0)), 1);
        r.due("equate(wt)", r.x.equate(r.finds("wt", 0)), 2);
        return r;
    }

    /** Which rule the statement x of the text defines. */
    private static void defined(String text, String rule) {
        defines(withTerms(text), "x", rule);
    }

    /** Promise 24: each condition of a definition. */
    private static void definitions() {
        defined("x $a |- d a = n a $. ", "sd");
        defined("x $a |- d b ~ n b $. ", "sd");
        defined("x $a |- n b ~ d b $. ", "sn");
        defined("x $a |- d3 = k $. ", "s3");
        defined("x $a |- d2 b a = ( a b ) $. ", "s2");
        defined("x $a |- d2 b a = k $. ", "s2");
        defined("x $a |- d2 b b = k $. ", "");
        defined("x $a |- d2 b k = k $. ", "");
        defined("x $a |- d2 k b = k $. ", "");
        defined("x $a |- d n a = k $. ", "");
        defined("x $a |- a = k $. ", "");
        defined("x $a |- d a = d a $. ", "");
        defined("x $a |- d a = n d a $. ", "");
        defined("x $a |- d a = ( a d k ) $. ", "");
        defined("x $a |- d a = n b $. ", "");
        defined("x $a |- d a = ( a b ) $. ", "");
        defined("x $a |- d3 = a $. ", "");
        defined("x $a wff d a = n a $. ", "");
        defined("x $a |- l d a $. ", "");
        defined("x $p |- d a = n a $= ? $. ", "");
        defined(hypothesis("x", "|- d a = n a"), "");
        defined("${ e $e |- l k $. x $a |- d a = n a $. $} ", "");
        defined("${ e $e s k $. x $a |- d a = n a $. $} ", "");
        defined(hypothesis("e", "|- l k") + "x $a |- d a = n a $. ", "sd");
        defined("x $a |- d a = z $. ", "");
        defined("wa $a wff d a = n b $. x $a |- d a = n a $. ", "");
        defined("wa $a wff d a = n a $. x $a |- d a = n a $. ", "sd");
        defined("x $a |- d a = n a $. wa $a wff d a = n b $. ", "sd");
        defined("x $a |- d a = n a $. y $a |- d b = n b $. ", "sd");
        defined("y $a |- d a = n a $. x $a |- d b = n b $. ", "");
        defined("y $a |- d a = n a $. x $a |- d4 b = n d b $. ", "s4");
        defined("y $a |- d4 a = n d a $. x $a |- d b = n b $. ", "");
        Runs r = withTerms("x $a |- d a = n a $. ");
        r.due("equate(we)", r.x.equate(r.finds("we", 0)), 1);
        defines(r, "x", "");
        r.due("equate(we)", r.x.equate(r.finds("we", 0)), 2);
        defines(r, "x", "sd");
        Runs q = withTerms("x $a |- d2 b a = ( a b ) $. ");
        q.due("equate(s2)", q.x.equate(q.finds("s2", 0)), 3);
        defines(q, "x", "");
        q.due("equate(s2)", q.x.equate(q.finds("s2", 0)), 2);
        defines(q, "x", "s2");
        q.due("equate(sp)", q.x.equate(q.finds("sp", 0)), 3);
        defines(q, "x", "s2");
    }

    /** No statement before with |-, at most 60 symbols and just one tree has the rule in that. */
    private static void usedBefore() {
        String x = "x $a |- d a = n a $. ";
        String n55 = Runs.times("n ", 55);
        defined("y $a |- l d k $. " + x, "");
        defined(hypothesis("y", "|- l d k") + x, "");
        defined("y $p |- l d k $= ? $. " + x, "");
        defined("y $a |- l n d n k $. " + x, "");
        defined("y $a |- k = ( n k d k ) $. " + x, "");
        defined("y $a wff l d k $. " + x, "sd");
        defined("y $a s d k $. " + x, "sd");
        defined(hypothesis("y", "s d k") + x, "sd");
        defined("y $a |- d k $. " + x, "sd");
        defined("y $a |- d $. " + x, "sd");
        defined(x + "y $a |- l d k $. ", "sd");
        defined("y $a |- l d n " + n55 + "k $. " + x, "");
        defined("y $a |- l d n n " + n55 + "k $. " + x, "sd");
        defined("y $a |- l d n " + n55 + "k k $. " + x, "sd");
        defined("s5 $a s n n a $. y $a |- l d n n k $. " + x, "sd");
        defined("s5 $a s n n a $. y $a |- l d n k $. " + x, "");
        defined("y $a |- l d n n k $. s5 $a s n n a $. " + x, "");
        Runs r = withTerms("x $a |- d a = " + n55 + "a $. ");
        r.due("length(x)", r.x.length(r.finds("x", 0)), 60);
        defines(r, "x", "sd");
        Runs q = withTerms("x $a |- d a = n " + n55 + "a $. ");
        q.due("length(x)", q.x.length(q.finds("x", 0)), 61);
        q.due("definition(x)", q.x.definition(q.finds("x", 0)), -2);
    }

    private static void without(Runs r, String label, String due) {
        r.prints(7, r.finds(label, 0), 0, due);
    }

    /** Promise 20: without definitions, those of axioms before the statement alone. */
    private static void withoutDefinitions() {
        Runs r = withTerms("a0 $a |- l n k $. x $a |- d a = n a $. b0 $a |- l d k $. y $a |- d2 b a = ( d a d b ) $. z1 $a |- d3 = d2 k n k $. "
            + "v $a |- d4 c = d3 $. g1 $a |- l d d n k $. g2 $a |- d2 c d a = d4 d k $. " + hypothesis("e", "s d2 a d3")
            + "th $p wff l d4 a $= ? $. $v w $. fw $f s w $. tp $p |- l d w $= ? $. ");
        String[] labels = {"a0", "x", "b0", "y", "z1", "v", "g1", "g2", "e", "th", "fw", "tp"};
        String[] plain = {"|- l n k", "|- d a = n a", "|- l d k", "|- d2 b a = ( d a d b )", "|- d3 = d2 k n k", "|- d4 c = d3", "|- l d d n k",
            "|- d2 c d a = d4 d k", "s d2 a d3", "wff l d4 a", "s w", "|- l d w"};
        String six = "( n n k n k )";
        String[] due = {"|- l n k", "|- d a = n a", "|- l n k", "|- d2 b a = ( n a n b )", "|- d3 = " + six, "|- d4 c = " + six, "|- l n n n k",
            "|- ( n n a n c ) = " + six, "s ( n " + six + " n a )", "wff l " + six, "s w", "|- l n w"};
        for (int k = 0; k < labels.length; k++) {
            without(r, labels[k], due[k]);
        }
        r.printsNot(7, r.finds("sk", 0), 0, -1);
        r.due("equate(we)", r.x.equate(r.finds("we", 0)), 1);
        for (int k = 0; k < labels.length; k++) {
            without(r, labels[k], plain[k]);
        }
        r.due("equate(sp)", r.x.equate(r.finds("sp", 0)), 2);
        r.due("equate(we)", r.x.equate(r.finds("we", 0)), 3);
        r.due("equate(s2), so that y is none", r.x.equate(r.finds("s2", 0)), 4);
        without(r, "y", "|- d2 b a = ( n a n b )");
        without(r, "v", "|- d4 c = d2 k n k");
        without(r, "g2", "|- d2 c n a = d2 k n k");
        r.due("check()", r.x.check(), 1);
        longRows();
    }

    /** Six hundred symbols with the first one; what is dropped may be longer; long rows under a chain of rules. */
    private static void longRows() {
        StringBuilder text = new StringBuilder("$c |- wff s = ( ) k ");
        StringBuilder rest = new StringBuilder("$. $v a b ");
        for (int n = 0; n < 90; n++) {
            text.append("t").append(n).append(' ');
            rest.append("v").append(n).append(' ');
        }
        rest.append("$. fa $f s a $. fb $f s b $. sk $a s k $. sp $a s ( a b ) $. we $a wff a = b $. ");
        for (int n = 0; n < 90; n++) {
            rest.append("f").append(n).append(" $f t").append(n).append(" v").append(n).append(" $. u").append(n).append(n == 0 ? " $a wff v0 $. "
                : " $a t" + (n - 1) + " v" + n + " $. ");
        }
        rest.append("last $a t89 a $. ");
        Runs r = new Runs("long rows");
        r.reads(text + "d0 " + rest + "c0 $a s d0 $. x0 $a |- d0 = ( k k ) $. ");
        String[] rows = new String[9];
        rows[0] = "( k k )";
        for (int n = 1; n < 9; n++) {
            r.reads("$c d" + n + " $. c" + n + " $a s d" + n + " $. x" + n + " $a |- d" + n + " = ( d" + (n - 1) + " d" + (n - 1) + " ) $. ");
            rows[n] = "( " + rows[n - 1] + " " + rows[n - 1] + " )";
        }
        r.due("equate(we)", r.x.equate(r.finds("we", 0)), 1);
        /* The rows have 4, 10, 22, 46, 94, 190, 382, 766 symbols, and so on. */
        r.reads("$c n p $. sn $a s n a $. cp $a s p a b $. xp $a |- p a b = b $. g $a |- n ( d6 ( d5 d2 ) ) $. h $a |- n n ( d6 ( d5 d2 ) ) $. "
            + "j $a |- d7 $. m $a |- p d8 d0 $. q $a |- p d0 d8 $. "
            + hypothesis("o", "s n ( d6 ( d5 d2 ) )") + hypothesis("o2", "s n n ( d6 ( d5 d2 ) )"));
        String most = "n ( " + rows[6] + " ( " + rows[5] + " " + rows[2] + " ) )";
        without(r, "g", "|- " + most);
        r.due("symbols without definitions", r.shown().split(" ").length, 600);
        without(r, "o", "s " + most);
        r.printsNot(7, r.finds("h", 0), 0, -2);
        r.printsNot(7, r.finds("o2", 0), 0, -2);
        without(r, "m", "|- " + rows[0]);
        r.printsNot(7, r.finds("q", 0), 0, -2);
        r.printsNot(7, r.finds("j", 0), 0, -2);
        r.printsNot(7, r.finds("x7", 0), 0, -2);
        r.printsNot(7, r.finds("x8", 0), 0, -2);
        r.due("check()", r.x.check(), 1);
    }

    private static final String LOGIC = "$c |- wff set ( -> ) n k j , $. $v p q x $. fp $f wff p $. fq $f wff q $. fx $f set x $. wi $a wff ( p -> q ) $. wn $a wff n p $. "
        + "wk $a wff k $. any $a |- p $. same $a |- ( p -> p ) $. ${ m1 $e |- p $. m2 $e |- ( p -> q ) $. mp $a |- q $. $} "
        + "${ d1 $e |- n q $. d2 $e |- n p $. d3 $e |- $. d4 $e set p , $. and $a |- ( p -> q ) $. $} ";

    /** Promise 25: the row's tree and the assertion's. */
    private static void backwards() {
        Runs r = new Runs("backwards");
        r.reads(LOGIC);
        int any = r.finds("any", 0);
        int same = r.finds("same", 0);
        int and = r.finds("and", 0);
        r.applies(and, "|- ( k -> n n k )", 4, "|- n n n k , |- n k , |- , set k ,");
        r.prints(0, 0, 0, "fp");
        r.applies(any, "|- ( p -> n k )", 0, "");
        r.prints(0, 0, 0, "fp");
        r.applies(same, "|- ( n k -> n k )", 0, "");
        r.prints(0, 0, 0, "fp");
        r.applies(same, "|- ( n k -> n n k )", -1, "fp");
        r.applies(same, "|- ( q -> p )", -1, "fp");
        r.applies(same, "|- n ( k -> k )", -1, "fp");
        r.applies(same, "|- k", -1, "fp");
        r.applies(same, "|- ( x -> x )", -1, "fp");
        r.applies(same, "wff ( k -> k )", -1, "fp");
        r.applies(same, "|- |- ( k -> k )", -1, "fp");
        r.applies(same, "|- ( k -> k ) k", -1, "fp");
        r.applies(same, "( k -> k )", -1, "fp");
        r.applies(any, "set x", -1, "fp");
        r.applies(r.finds("mp", 0), "|- k", -1, "fp");
        r.reads("${ e $e set x $. xx $a |- q $. $} ${ f $e |- q x $. xy $a |- q $. $} t $p wff n n p $= fp wn wn $. o $p set x $= ? $. ok $a wff j $. ");
        r.applies(r.finds("xx", 0), "|- k", -1, "fp");
        r.applies(r.finds("xy", 0), "|- k", -1, "fp");
        r.applies(r.finds("t", 0), "wff n n n k", 0, "");
        r.applies(r.finds("t", 0), "wff n k", -1, "");
        r.applies(r.finds("o", 0), "set x", 0, "");
        r.applies(r.finds("wn", 0), "wff n k", -1, "");
        r.prints(0, 0, 0, "fp");
        r.applies(and, "|- ( j -> j )", 4, "|- n j , |- n j , |- , set j ,");
        r.reads("oo $a wff j $. ");
        r.applies(and, "|- ( j -> j )", -1, "|- n j , |- n j , |- , set j ,");
        r.applies(same, "|- ( n n p -> n n p )", 0, "");
    }

    /** NONE first for the assertion and the tokens, then FULL, then NONE for the trees, then FULL for what is printed. */
    private static void backwardsInOrder() {
        Runs r = new Runs("backwards in order");
        String n58 = Runs.times("n ", 58);
        r.reads(LOGIC + "lo $a |- n " + n58 + "p $. most $a |- " + n58 + "p $. ");
        r.prints(0, 0, 0, "fp");
        int[] none = {-1, r.x.count(0), 0, Integer.MAX_VALUE, Integer.MIN_VALUE, r.finds("m1", 0)};
        for (int i : none) {
            r.applies(i, "|- n " + n58 + "p", -1, "fp");
            r.applies(i, "|- k", -1, "fp");
        }
        String[] assertions = {"lo", "most", "any"};
        String[] noRow = {"", " \n", "|- nothing", "nothing", "|- fp", "|- k $( c $)", "$( c $)", "|- k $", "|- k\u0001", "\u0080", "|- n " + n58 + "nothing",
            "|- n " + n58 + "k \u007f", "|- n " + n58 + "k fp"};
        for (String label : assertions) {
            for (String row : noRow) {
                r.applies(r.finds(label, 0), row, -1, "fp");
                r.due("end(0) of what was used", r.x.end(0), -1);
            }
        }
        String[] rows = {"|-", "k", "p", "|- k", "wff k", "wff", "|- x", "|- " + n58 + "p", "|- n " + n58 + "p", "k k"};
        for (String row : rows) {
            r.applies(r.finds("lo", 0), row, -2, "fp");
        }
        r.applies(r.finds("most", 0), "|- n " + n58 + "p", -2, "fp");
        r.applies(r.finds("any", 0), "|- n " + n58 + "p", -2, "fp");
        r.applies(r.finds("any", 0), "k n " + n58 + "p", -2, "fp");
        r.applies(r.finds("mp", 0), "|- n " + n58 + "p", -2, "fp");
        r.applies(r.finds("mp", 0), "|- " + n58 + "p", -1, "fp");
        r.applies(r.finds("most", 0), "|- " + n58 + "q", 0, "");
        r.prints(0, 0, 0, "fp");
        r.applies(r.finds("most", 0), "|- " + n58.substring(2) + "q", -1, "fp");
        r.applies(r.finds("any", 0), "|-", -1, "fp");
        r.applies(r.finds("any", 0), "k", -1, "fp");
    }

    /** A variable is known by its symbol and type, active or not; without a type, or of |- , it is none. */
    private static void inactiveVariables() {
        Runs r = new Runs("variables of rows");
        r.reads("$c |- wff n $. ${ $v p q u v $. f1 $f wff p $. g1 $f wff q $. h1 $f |- v $. wn $a wff n p $. w2 $a wff n p q $. ${ e $e |- q n p $. a $a |- n p q $. $} $} "
            + "${ $v q p $. f2 $f wff q $. f3 $f wff p $. ${ e2 $e |- p $. b $a |- n p $. $} $} ");
        int a = r.finds("a", 0);
        int b = r.finds("b", 0);
        r.applies(a, "|- n q p", 1, "|- p n q");
        r.applies(a, "|- n p p", 1, "|- p n p");
        r.applies(a, "|- n n p q", -1, "|- p n p");
        r.applies(b, "|- n q", 1, "|- q");
        r.applies(b, "|- n n q", 1, "|- n q");
        r.applies(b, "|- n u", -1, "|- n q");
        r.applies(b, "|- n v", -1, "|- n q");
        r.applies(b, "|- n wff", -1, "|- n q");
        r.reads("$v u $. fu $f wff u $. ");
        r.applies(b, "|- n u", 1, "|- u");
    }

    /** 24000 characters are printed, one more is FULL, and NONE comes before. */
    private static void longestHypotheses() {
        Runs r = new Runs("the longest that apply() prints");
        String s = Runs.times("s", 60);
        r.reads("$c |- wff n e ee " + s + " $. $v x y $. fx $f wff x $. fy $f wff y $. ws $a wff " + s + " x $. wn $a wff n $. ");
        String[] ends = {"e", "ee", "y"};
        for (String e : ends) {
            r.reads("${ h1" + e + " $e |- x x x x $. h2" + e + " $e |- x x x x x " + Runs.times(s + " ", 6) + e + " $. a" + e + " $a |- x $. $} ");
        }
        String x = Runs.times(s + " ", 43) + "n";
        String four = x + " " + x + " " + x + " " + x;
        String due = "|- " + four + " , |- " + four + " " + x + " " + Runs.times(s + " ", 6) + "e";
        r.applies(r.finds("ae", 0), "|- " + x, 2, due);
        r.due("printed", due.length(), 24000);
        r.applies(r.finds("aee", 0), "|- " + x, -2, due);
        r.applies(r.finds("ay", 0), "|- " + x, -1, due);
        r.due("character(23999)", r.x.character(23999), 'e');
        r.due("character(24000)", r.x.character(24000), -1);
    }

    /** Promise 26. */
    private static void checks() {
        Runs r = new Runs("check");
        r.due("check() of nothing", r.x.check(), 1);
        r.reads(LOGIC);
        r.due("check()", r.x.check(), 1);
        r.reads("a $p |- ( p -> p ) $= fp same $. b $p |- p $= ? $. c $p wff n n k $= wk wn wn $. "
            + "h $e |- " + Runs.times("n ", 70) + "k $. ");
        r.due("check()", r.x.check(), 1);
        r.prints(0, 0, 0, "fp");
        r.due("check()", r.x.check(), 1);
        r.due("printed stays", r.shown().length(), 2);
        r.due("place() stays", r.x.place(), -1);
        r.faulty("^$.", 4);
        r.due("check()", r.x.check(), 1);
        r.due("place() stays", r.x.place(), 0);
        r.x.feed(0x6b202020, 0x20202020, 0x20202020, 0x20202020, 0x20202020);
        r.due("check()", r.x.check(), 1);
        r.due("end(2)", r.x.end(2), 2);
        r.due("find(1)", r.x.find(1), 7);
    }

    public static void main(String[] args) {
        rules();
        whatCounts();
        provable();
        howMany();
        sixty();
        twoSorts();
        definitions();
        usedBefore();
        withoutDefinitions();
        backwards();
        backwardsInOrder();
        inactiveVariables();
        longestHypotheses();
        checks();
        Runs.finish();
    }
}
