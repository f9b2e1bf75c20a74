/** Each promise but the faults of read(): ordinary calls, edges and wrong ones. */
public final class PromisesTest {
    private static final String LOGIC = "$c |- wff set ( ) -> -. A. $. $v p q r x $. fp $f wff p $. fq $f wff q $. fr $f wff r $."
        + " fx $f set x $. wi $a wff ( p -> q ) $. wn $a wff -. p $. wal $a wff A. x p $."
        + " a1 $a |- ( p -> ( q -> p ) ) $. a2 $a |- ( ( p -> ( q -> r ) ) -> ( ( p -> q ) -> ( p -> r ) ) ) $."
        + " ${ m1 $e |- p $. m2 $e |- ( p -> q ) $. mp $a |- q $. $} ${ $d x p $. a5 $a |- ( p -> A. x p ) $. $} ";
    private static final String ID = "id $p |- ( p -> p ) $= ( wi a1 a2 mp ) AAABZBZFAACAFABBGFBAFCAFADEE $. ";

    /** Promise 1. */
    private static void newObject() {
        Runs r = new Runs("a new object");
        for (int what = 0; what < 10; what++) {
            r.due("count(" + what + ")", r.x.count(what), 0);
        }
        r.reads("$c ! ~ !~ $.");
        r.due("find ~", r.finds("~", 1), 1);
        r.due("find !~", r.finds("!~", 1), 2);
        r = new Runs("a new object");
        r.due("NONE", ProofLibrary.NONE, -1);
        r.due("FULL", ProofLibrary.FULL, -2);
        r.due("place()", r.x.place(), -1);
        r.due("character(0)", r.x.character(0), -1);
        r.due("kind(0)", r.x.kind(0), -1);
        r.due("check()", r.x.check(), 1);
        r.due("find(0)", r.x.find(0), -1);
        r.due("apply(0)", r.x.apply(0), -1);
        r.due("equate(0)", r.x.equate(0), -1);
        r.due("end(0)", r.x.end(0), -1);
        r.due("read()", r.x.read(), 0);
        r.due("place()", r.x.place(), -1);
    }

    /** Promises 2 and 3. */
    private static void feedAndEnd() {
        Runs r = new Runs("feed and end");
        r.due("feed", r.x.feed(0x24632061, 0x20242e20, 0x20202020, 0x20202020, 0x202000ff), 20);
        r.due("end(20)", r.x.end(20), -1);
        r.due("end(-1)", r.x.end(-1), -1);
        r.due("end(18)", r.x.end(18), 18);
        r.due("end(18)", r.x.end(18), -1);
        r.due("feed", r.x.feed(0, 0, 0, 0, 0), 38);
        r.due("end(0)", r.x.end(0), 18);
        r.due("read()", r.x.read(), 0);
        r.due("end(1)", r.x.end(1), -1);
        r.prints(1, 0, 0, "a");
        r.x.feed(0x80ffffff, 0, 0, 0, 0);
        r.due("find(1)", r.x.find(1), -1);
        r.due("end(1)", r.x.end(1), -1);
        r.due("feed", r.x.feed(0x61202020, 0x20202020, 0x20202020, 0x20202020, 0x20202020), 20);
        r.due("find(7)", r.x.find(7), -1);
        r.due("feed", r.x.feed(0x61202020, 0x20202020, 0x20202020, 0x20202020, 0x20202020), 20);
        r.due("find(1)", r.x.find(1), 0);
        r.due("feed", r.x.feed(0x61202020, 0x20202020, 0x20202020, 0x20202020, 0x20202020), 20);
        r.due("apply(0)", r.x.apply(0), -1);
        r.due("end(0)", r.x.end(0), -1);
        r.due("feed", r.x.feed(0x01000000, 0, 0, 0, 0), 20);
        r.due("read()", r.x.read(), 1);
        r.due("place()", r.x.place(), 0);
        r.due("read()", r.x.read(), 0);
        r.due("place()", r.x.place(), -1);
    }

    /** Promises 6 to 11. */
    private static void whatIsThere() {
        Runs r = new Runs("what is there");
        r.reads(LOGIC + ID + "open $p |- p $= fp ? $.");
        int[] counts = {15, 12, 8, 4, 2, 7, 2, 1, 27, 1, -1};
        for (int what = 0; what < 11; what++) {
            r.due("count(" + what + ")", r.x.count(what), counts[what]);
        }
        r.due("count(-1)", r.x.count(-1), -1);
        int[] kinds = {0, 0, 0, 0, 2, 2, 2, 2, 2, 1, 1, 2, 2, 3, 4, -1};
        int[] lengths = {2, 2, 2, 2, 6, 3, 4, 10, 26, 2, 6, 2, 8, 6, 2, -1};
        for (int i = 0; i < kinds.length; i++) {
            r.due("kind(" + i + ")", r.x.kind(i), kinds[i]);
            r.due("length(" + i + ")", r.x.length(i), lengths[i]);
        }
        r.due("kind(-1)", r.x.kind(-1), -1);
        r.due("length(-1)", r.x.length(-1), -1);
        int[] symbols = {1, 3, 8, 5, 9, 4, -1};
        for (int k = 0; k < symbols.length; k++) {
            r.due("symbol(4, " + k + ")", r.x.symbol(4, k), symbols[k]);
        }
        r.due("symbol(4, -1)", r.x.symbol(4, -1), -1);
        r.due("symbol(15, 0)", r.x.symbol(15, 0), -1);
        r.due("variable(0)", r.x.variable(0), 0);
        r.due("variable(8)", r.x.variable(8), 1);
        r.due("variable(12)", r.x.variable(12), -1);
        r.due("variable(-1)", r.x.variable(-1), -1);
        r.reads("${ $v once $. $}");
        r.due("variable(12)", r.x.variable(12), 1);
        r.due("find once", r.finds("once", 1), 12);
        r.due("find once", r.finds("once", 0), -1);
        r.due("find id", r.finds(" \n id\t", 0), 13);
        r.due("find id", r.finds("id", 1), -1);
        r.due("find ->", r.finds("->", 1), 5);
        r.due("find -> as a third sort", r.finds("->", 2), -1);
        r.due("find as sort -1", r.finds("->", -1), -1);
        r.due("find none", r.finds("none", 0), -1);
        r.due("find two", r.finds("id id", 0), -1);
        r.due("find in a comment", r.finds("$( id $)", 0), -1);
        r.due("find nothing", r.finds("", 0), -1);
        r.due("find blanks", r.finds("  ", 0), -1);
        r.due("find with another character", r.finds("id\u0001", 0), -1);
        r.due("find with another character", r.finds("id \u0080", 0), -1);
        r.due("find with another character", r.finds("\u0000id", 0), -1);
        r.due("find $(", r.finds("$(", 0), -1);
        r.due("read() of what find() used", r.x.read(), 0);
    }

    /** Promises 12 to 14. */
    private static void frames() {
        Runs r = new Runs("frames");
        r.reads(LOGIC + ID + "open $p |- p $= fp ? $. two $p |- ( q -> q ) $= fq id $.");
        int[] sizes = {2, 1, 2, 2, 3, -1, -1, 4, 2, 1, 1, 1, -1};
        for (int k = 0; k < sizes.length; k++) {
            r.due("frame(" + (k + 4) + ", 0)", r.x.frame(k + 4, 0), sizes[k]);
        }
        r.due("frame(0, 0)", r.x.frame(0, 0), -1);
        r.due("frame(-1, 0)", r.x.frame(-1, 0), -1);
        r.due("frame(12, 1)", r.x.frame(12, 1), 1);
        r.due("frame(11, 1)", r.x.frame(11, 1), 0);
        r.due("frame(12, 2)", r.x.frame(12, 2), 0);
        r.due("frame(13, 2)", r.x.frame(13, 2), 4);
        r.due("frame(14, 2)", r.x.frame(14, 2), -1);
        r.due("frame(14, 1)", r.x.frame(14, 1), 0);
        r.due("frame(15, 2)", r.x.frame(15, 2), 5);
        r.due("frame(15, 3)", r.x.frame(15, 3), -1);
        r.due("frame(15, -1)", r.x.frame(15, -1), -1);
        int[] hypotheses = {0, 1, 9, 10, -1};
        for (int k = 0; k < hypotheses.length; k++) {
            r.due("hypothesis(11, " + k + ")", r.x.hypothesis(11, k), hypotheses[k]);
        }
        r.due("hypothesis(11, -1)", r.x.hypothesis(11, -1), -1);
        r.due("hypothesis(0, 0)", r.x.hypothesis(0, 0), -1);
        r.due("hypothesis(16, 0)", r.x.hypothesis(16, 0), -1);
        r.due("apart(12, p, x)", r.x.apart(12, 8, 11), 1);
        r.due("apart(12, x, p)", r.x.apart(12, 11, 8), 1);
        r.due("apart(12, x, x)", r.x.apart(12, 11, 11), 0);
        r.due("apart(12, p, q)", r.x.apart(12, 8, 9), 0);
        r.due("apart(12, -1, 99)", r.x.apart(12, -1, 99), 0);
        r.due("apart(0, p, x)", r.x.apart(0, 8, 11), -1);
        r.due("apart(99, p, x)", r.x.apart(99, 8, 11), -1);
        r.reads("${ $d p q r x $. e $e |- ( p -> r ) $. order $a |- p $. $}");
        r.due("frame(order, 0)", r.x.frame(17, 0), 3);
        r.due("frame(order, 1)", r.x.frame(17, 1), 1);
        r.due("apart(order, p, r)", r.x.apart(17, 10, 8), 1);
        r.due("hypothesis(order, 1)", r.x.hypothesis(17, 1), 2);
        r.due("hypothesis(order, 2)", r.x.hypothesis(17, 2), 16);
        r.reads("$v y $. ${ e2 $e |- p $. fy $f wff y $. between $a |- y $. $}");
        r.due("hypothesis(between, 0)", r.x.hypothesis(20, 0), 0);
        r.due("hypothesis(between, 1)", r.x.hypothesis(20, 1), 18);
        r.due("hypothesis(between, 2)", r.x.hypothesis(20, 2), 19);
    }

    /** Promises 15 to 19. */
    private static void proofs() {
        Runs r = new Runs("proofs");
        r.reads(LOGIC + "th $p |- ( q -> ( -. p -> q ) ) $= ( wn a1 ) BACD $. "
            + "id $p |- ( p -> p ) $= fp fp a1 fp fp wi ? $. ");
        r.due("rows of an open one", r.x.rows(14), -1);
        r.due("rows(13)", r.x.rows(13), 4);
        r.due("rows(12)", r.x.rows(12), -1);
        r.due("rows(-1)", r.x.rows(-1), -1);
        int[] rows = {1, 0, 5, 7, -1};
        for (int k = 0; k < rows.length; k++) {
            r.due("row(13, " + k + ")", r.x.row(13, k), rows[k]);
        }
        r.due("row(13, -1)", r.x.row(13, -1), -1);
        r.due("row(14, 0)", r.x.row(14, 0), -1);
        r.due("from(13, 3, 0)", r.x.from(13, 3, 0), 0);
        r.due("from(13, 3, 1)", r.x.from(13, 3, 1), 2);
        r.due("from(13, 3, 2)", r.x.from(13, 3, 2), -1);
        r.due("from(13, 3, -1)", r.x.from(13, 3, -1), -1);
        r.due("from(13, 2, 0)", r.x.from(13, 2, 0), 1);
        r.due("from(13, 0, 0)", r.x.from(13, 0, 0), -1);
        r.due("from(13, 4, 0)", r.x.from(13, 4, 0), -1);
        r.prints(3, 13, 3, "|- ( q -> ( -. p -> q ) )");
        r.prints(3, 13, 2, "wff -. p");
        r.prints(3, 13, 0, "wff q");
        r.printsNot(3, 13, 4, -1);
        r.printsNot(3, 13, -1, -1);
        r.printsNot(3, 14, 0, -1);
        r.printsNot(3, 0, 0, -1);
        r.due("size(13)", r.x.size(13), 4);
        r.due("size(14)", r.x.size(14), -1);
        r.due("size(0)", r.x.size(0), -1);
        r.due("size(99)", r.x.size(99), -1);
        r.due("rests(13, wn)", r.x.rests(13, 5), 1);
        r.due("rests(13, a1)", r.x.rests(13, 7), 1);
        r.due("rests(13, wi)", r.x.rests(13, 4), 0);
        r.due("rests(13, fp)", r.x.rests(13, 0), -1);
        r.due("rests(13, 13)", r.x.rests(13, 13), 0);
        r.due("rests(13, 99)", r.x.rests(13, 99), -1);
        r.due("rests(14, wi)", r.x.rests(14, 4), -1);
        r.due("rests(wi, wi)", r.x.rests(4, 4), -1);
        r.reads("o $p |- p $= ( id wn ) A ? B $. u $p |- ( p -> p ) $= fp id $. v $p |- q $= fq o $.");
        r.due("frame(u, 2): id, wi, a1", r.x.frame(16, 2), 3);
        r.due("frame(v, 2): o, id, wi, a1", r.x.frame(17, 2), 4);
        r.due("rests(v, o)", r.x.rests(17, 15), 1);
        r.due("rests(v, id)", r.x.rests(17, 14), 1);
        r.due("rests(v, a1)", r.x.rests(17, 7), 1);
        r.due("rests(v, wn), listed, but no step", r.x.rests(17, 5), 0);
        r.due("count(8)", r.x.count(8), 4 + 6 + 2 + 2 + 2);
    }

    /** Promises 20 and 21. */
    private static void printing() {
        Runs r = new Runs("printing");
        r.reads(LOGIC + ID);
        r.prints(0, 0, 0, "fp");
        r.prints(0, 13, 7, "id");
        r.prints(1, 5, 0, "->");
        r.prints(1, 11, 0, "x");
        r.prints(2, 12, 0, "|- ( p -> A. x p )");
        r.prints(2, 3, 0, "set x");
        r.due("character(0)", r.x.character(0), 's');
        r.due("character(3)", r.x.character(3), ' ');
        r.due("character(4)", r.x.character(4), 'x');
        r.due("character(5)", r.x.character(5), -1);
        r.due("character(-1)", r.x.character(-1), -1);
        r.printsNot(0, 14, 0, -1);
        r.printsNot(0, -1, 0, -1);
        r.printsNot(1, 12, 0, -1);
        r.printsNot(1, -1, 0, -1);
        r.printsNot(2, 14, 0, -1);
        r.printsNot(8, 0, 0, -1);
        r.printsNot(-1, 0, 0, -1);
        r.printsNot(4, 12, 0, -1);
        r.printsNot(5, 12, 0, -1);
        r.prints(4, 13, 0, "( wi a1 a2 mp ) AAABZBZFAACAFABBGFBAFCAFADEE");
        r.prints(5, 13, 0, "fp fp fp wi wi fp fp wi fp fp a1 fp fp fp wi fp wi wi fp fp fp wi wi fp fp wi wi "
            + "fp fp fp wi a1 fp fp fp wi fp a2 mp mp");
        r.due("size(id)", r.x.size(13), 40);
        r.due("rows(id)", r.x.rows(13), 20);
        r.prints(6, 7, 0, "fp fq fp wi wi");
        r.prints(6, 0, 0, "fp");
        r.prints(6, 12, 0, "fp fp fx wal wi");
        r.prints(7, 12, 0, "|- ( p -> A. x p )");
        r.prints(7, 0, 0, "wff p");
    }

    /** Packed anew: promise 20 again. */
    private static void packedAnew() {
        Runs r = new Runs("packed anew");
        r.reads("$c t ( ) k $. $v x y z $. fx $f t x $. fy $f t y $. fz $f t z $. p $a t ( x y ) $. kk $a t k $.");
        String row = "t ( ( x y ) ( x y ) )";
        r.reads("a $p " + row + " $= fx fy p fx fy p p $.");
        r.prints(4, 5, 0, "( p ) ABCZDC");
        r.prints(5, 5, 0, "fx fy p fx fy p p");
        r.reads("b $p t ( k k ) $= ( p kk ) BZCA $.");
        r.prints(4, 6, 0, "( kk p ) AAB");
        r.prints(5, 6, 0, "kk kk p");
        r.due("rows(b)", r.x.rows(6), 2);
        r.reads("c $p t k $= kk $. d $p t x $= fx $. e $p t x $= ( ) A $.");
        r.prints(4, 7, 0, "( kk ) A");
        r.prints(4, 8, 0, "( ) A");
        r.prints(4, 9, 0, "( ) A");
        /* What comes again in ( ( x y ) ( x y ) ) alone, when that comes again, is not saved twice. */
        r.reads("f $p t ( ( ( x y ) x ) ( ( x y ) x ) ) $= fx fy p fx p fx fy p fx p p $.");
        r.prints(4, 10, 0, "( p ) ABCACZDC");
        r.reads("g $p t ( ( ( x y ) x ) ( ( x y ) ( ( x y ) x ) ) ) $= fx fy p fx p fx fy p fx fy p fx p p p $.");
        r.prints(4, 11, 0, "( p ) ABCZACZDECC");
        r.reads("h $p t ( ( x y ) ( ( x y ) ( x y ) ) ) $= ( p ) ABCZDDCC $.");
        r.prints(4, 12, 0, "( p ) ABCZDDCC");
        r.prints(5, 12, 0, "fx fy p fx fy p fx fy p p p");
        r.due("rows(h)", r.x.rows(12), 5);
        r.due("size(h)", r.x.size(12), 11);
        /* A hypothesis that is not mandatory has a label. */
        r.reads("${ e1 $e t y $. q1 $a t k $. $} i $p t k $= ( q1 p fz kk ) CCBCCBA $.");
        r.prints(4, 15, 0, "( fz p q1 ) AABZDC");
        r.prints(5, 15, 0, "fz fz p fz fz p q1");
    }

    /** Promise 22. */
    private static void trees() {
        Runs r = new Runs("trees");
        r.reads(LOGIC + "${ e $e |- $. ea $a wff A. $. $} e2 $a |- -. -. x $. e3 $a |- x $. no $a |- -. $. s $a set x $. ${ e4 $e set x $. $}");
        r.due("trees(fp)", r.x.trees(0), 1);
        r.due("trees(fx)", r.x.trees(3), 1);
        r.due("trees(wi), itself not before", r.x.trees(4), 0);
        r.due("trees(a1)", r.x.trees(7), 1);
        r.due("trees(m2)", r.x.trees(10), 1);
        r.due("trees(e), nothing behind |-", r.x.trees(13), 0);
        r.due("trees(e2), a set is no wff", r.x.trees(15), 0);
        r.due("trees(e4), without end", r.x.trees(19), 2);
        r.due("trees(99)", r.x.trees(99), -1);
        r.due("trees(-1)", r.x.trees(-1), -1);
        r.reads("w1 $a wff p -> q $. z $a |- p -> q $. zz $a |- p -> q -> r $. w2 $a wff p -> -. q $. z3 $a |- p -> -. q $.");
        r.due("trees(z)", r.x.trees(21), 1);
        r.due("trees(zz)", r.x.trees(22), 2);
        r.due("trees(z3)", r.x.trees(24), 2);
        r.printsNot(6, 22, 0, -1);
        r.printsNot(7, 22, 0, -1);
        StringBuilder b = new StringBuilder("|- ");
        for (int n = 0; n < 58; n++) {
            b.append("-. ");
        }
        r.reads("s60 $a " + b + "p $. s61 $a " + b + "-. p $.");
        r.due("trees of 60 symbols", r.x.trees(25), 1);
        r.due("trees of 61 symbols", r.x.trees(26), -2);
        r.due("print(6)", r.x.print(6, 25, 0), 2 + 58 * 3);
        r.prints(7, 25, 0, b + "p");
        r.printsNot(6, 26, 0, -2);
        r.printsNot(7, 26, 0, -2);
        r.due("definition(26)", r.x.definition(26), -2);
        Runs q = new Runs("no wff");
        q.reads("$c |- a $. $v p wff $. fp $f a p $. fw $f |- wff $. r $a a p p $. s $a |- a $. t $a |- p $. u $a a wff $. v $a a wff p $.");
        for (int i = 0; i < 7; i++) {
            q.due("trees(" + i + ")", q.x.trees(i), i == 0 ? 1 : 0);
        }
        q.reads("k $a a a a $. l $a a a a $.");
        q.due("trees(k)", q.x.trees(7), 0);
        q.due("trees(l)", q.x.trees(8), 1);
        Runs c = new Runs("circles");
        c.reads("$c |- wff s t k $. $v x y z $. fx $f wff x $. fy $f s y $. fz $f t z $. wk $a wff k $. a $a s x $. h $a s k $. b $a t y $. i $a t x $. c $a wff z $. j $a wff k $. g $a |- k $.");
        c.due("trees(h)", c.x.trees(5), 1);
        c.prints(6, 5, 0, "wk a");
        c.due("trees(i)", c.x.trees(7), 1);
        c.prints(6, 7, 0, "fx a b");
        c.due("trees(j)", c.x.trees(9), 2);
        c.due("trees(fx)", c.x.trees(0), 1);
        c = new Runs("a circle that is not reached");
        c.reads("$c |- wff s t u a b $. $v x y z $. fx $f s x $. fy $f t y $. fz $f u z $. sa $a s a $. ub $a u b $. wu $a wff z $. ws $a wff x $. "
            + "st $a s y $. ts $a t x $. ga $a |- a $. gb $a |- b $.");
        c.due("trees(ga)", c.x.trees(9), 2);
        c.due("trees(gb)", c.x.trees(10), 1);
        c.prints(6, 10, 0, "ub wu");
        c = new Runs("a rule of sixty symbols");
        c.reads("$c |- wff k $. w $a wff " + Runs.times("k ", 59) + "$. g $a |- " + Runs.times("k ", 59) + "$.");
        c.prints(6, 1, 0, "w");
    }

    private static final String EQUAL = "$c |- wff = , ( ) k n o d0 d1 d2 d3 $. $v x y z $. fx $f wff x $. fy $f wff y $. fz $f wff z $. "
        + "we $a wff ( x = y ) $. wr $a wff ( y , x ) $. wk $a wff k $. wn $a wff n x $. wo $a wff o x y $. ";

    /** Promise 23. */
    private static void equalities() {
        Runs r = new Runs("equalities");
        r.reads(EQUAL + "tw $a wff x x $. pr $a |- x y $. ${ e $e |- x $. es $a wff x , y $. $} th $p wff ( x = y ) $= fx fy we $. lo $a wff x y "
            + Runs.times("k ", 80) + "$.");
        r.due("equate(we)", r.x.equate(3), 1);
        r.due("equate(wr)", r.x.equate(4), 2);
        r.due("equate(wo)", r.x.equate(7), 3);
        r.due("equate(we)", r.x.equate(3), 2);
        r.due("equate(lo)", r.x.equate(13), 3);
        int[] wrong = {-1, 0, 5, 6, 8, 9, 10, 11, 12, 14};
        for (int i : wrong) {
            r.due("equate(" + i + ")", r.x.equate(i), -1);
        }
        r.due("equate(we)", r.x.equate(3), 4);
    }

    /** Promise 24, and print(7) again. */
    private static void definitions() {
        Runs r = new Runs("definitions");
        r.reads(EQUAL + "s0 $a wff d0 x $. s1 $a wff d1 x y $. s2 $a wff d2 $. s3 $a wff d3 x $. "
            + "a0 $a |- ( d0 x = n n x ) $. b0 $a |- ( d0 x = n x ) $. a1 $a |- ( d1 y x = ( d0 y , k ) ) $. a2 $a |- ( k = d2 ) $. "
            + "a3 $a |- ( d2 = k ) $. l $a |- ( d3 x = o x y ) $. m $a |- ( d3 x = d3 x ) $. use $a |- o d0 d1 k n d0 z d2 $.");
        int[] none = {12, 13, 14, 15, 16, 17, 18, 19};
        for (int i : none) {
            r.due("definition(" + i + ") without equalities", r.x.definition(i), -1);
        }
        r.prints(7, 19, 0, "|- o d0 d1 k n d0 z d2");
        r.due("equate(we)", r.x.equate(3), 1);
        int[] due = {8, -1, 9, -1, -1, -1, -1, -1};
        for (int k = 0; k < due.length; k++) {
            r.due("definition(" + (12 + k) + ")", r.x.definition(12 + k), due[k]);
        }
        r.due("definition of a rule", r.x.definition(3), -1);
        r.due("definition of a hypothesis", r.x.definition(0), -1);
        r.due("definition(99)", r.x.definition(99), -1);
        r.due("definition(-1)", r.x.definition(-1), -1);
        r.prints(7, 19, 0, "|- o n n ( n n k , k ) d2");
        r.prints(7, 12, 0, "|- ( d0 x = n n x )");
        r.prints(7, 13, 0, "|- ( n n x = n x )");
        r.prints(7, 14, 0, "|- ( d1 y x = ( n n y , k ) )");
        r.due("equate(we)", r.x.equate(3), 0);
        r.prints(7, 19, 0, "|- o d0 d1 k n d0 z d2");
        r = new Runs("a definition of sixty symbols");
        r.reads(EQUAL + "s0 $a wff d0 $. a0 $a |- ( d0 = " + Runs.times("n ", 54) + "k ) $.");
        r.due("length(a0)", r.x.length(9), 60);
        r.due("equate(we)", r.x.equate(3), 1);
        r.due("definition(a0)", r.x.definition(9), 8);
        definitionsByAnother();
        definitionsInTheWay();
        longWithout();
    }

    /** In ( y , x ) the variable y comes first, x has the first hypothesis. */
    private static void definitionsByAnother() {
        Runs r = new Runs("the first variable");
        r.reads(EQUAL + "s0 $a wff d0 x y $. a0 $a |- ( d0 z x , n x ) $. use $a |- d0 k o x y $. s1 $a wff d1 x $. a1 $a |- ( k , d1 x ) $. "
            + "s2 $a wff d2 x y $. a2 $a |- ( d2 x x , k ) $. s3 $a wff d3 x $. a3 $a |- ( d3 k , k ) $.");
        r.due("equate(wr)", r.x.equate(4), 1);
        r.due("definition(a0)", r.x.definition(9), 8);
        r.prints(7, 10, 0, "|- n o x y");
        r.due("definition(a1)", r.x.definition(12), -1);
        r.due("definition(a2)", r.x.definition(14), -1);
        r.due("definition(a3)", r.x.definition(16), -1);
        r.due("equate(s0)", r.x.equate(8), 2);
        r.due("definition(a0)", r.x.definition(9), -1);
        r.due("equate(s0)", r.x.equate(8), 1);
        r.due("definition(a0)", r.x.definition(9), 8);
    }

    private static void definitionsInTheWay() {
        Runs r = new Runs("what is before a definition");
        r.reads(EQUAL + "s0 $a wff d0 $. s1 $a wff d1 $. s2 $a wff d2 $. s3 $a wff d3 $. ");
        r.due("equate(we)", r.x.equate(3), 1);
        r.reads("${ h $e |- d0 $. $} ${ h1 $e wff d1 $. $} bad $a |- d2 = $. t $p |- o d3 k $= ? $. "
            + "a0 $a |- ( d0 = k ) $. a1 $a |- ( d1 = k ) $. a2 $a |- ( d2 = k ) $. a3 $a |- ( d3 = k ) $. ${ h4 $e |- k $. s4 $a |- k $. $} ");
        r.due("definition(a0)", r.x.definition(16), -1);
        r.due("definition(a1)", r.x.definition(17), 9);
        r.due("definition(a2)", r.x.definition(18), 10);
        r.due("definition(a3)", r.x.definition(19), -1);
        Runs q = new Runs("an essential hypothesis and a long row");
        q.reads(EQUAL + "s0 $a wff d0 $. s1 $a wff d1 $. ${ h $e |- k $. a0 $a |- ( d0 = k ) $. $} b0 $a |- ( d0 = k ) $. long $a |- "
            + Runs.times("n ", 60) + "d1 $. a1 $a |- ( d1 = k ) $.");
        q.due("equate(we)", q.x.equate(3), 1);
        q.due("definition(a0)", q.x.definition(11), -1);
        q.due("definition(b0)", q.x.definition(12), -1);
        q.due("definition(a1)", q.x.definition(14), 9);
    }

    private static void longWithout() {
        Runs r = new Runs("long without definitions");
        StringBuilder b = new StringBuilder(EQUAL.replace("d0 d1 d2 d3 $.", "e0 e1 e2 e3 e4 e5 e6 e7 e8 e9 p0 p1 p2 $."));
        for (int n = 0; n < 10; n++) {
            b.append("t").append(n).append(" $a wff e").append(n).append(" x $. ");
        }
        b.append("v0 $a |- ( e0 x = n x ) $. ");
        for (int n = 1; n < 10; n++) {
            b.append("v").append(n).append(" $a |- ( e").append(n).append(" x = e").append(n - 1).append(" e").append(n - 1).append(" x ) $. ");
        }
        b.append("c0 $a wff p0 x y $. v10 $a |- ( p0 x y = y ) $. ");
        b.append("g $a |- e9 k $. h $a |- e8 e6 e4 e2 e1 k $. i $a |- p0 e9 e9 k e3 k $. j $a |- p0 k e9 e9 k $. ");
        b.append("l $a |- e9 e6 e4 e2 e1 k $. m $a |- e9 e6 e4 e2 e1 n k $. ");
        b.append("c1 $a wff p1 x $. v11 $a |- ( p1 x = e9 e9 x ) $. q $a |- p1 k $. q0 $a |- p0 p1 k k $. q1 $a |- n p1 k $. ");
        b.append("u $a |- ( e9 e6 e4 n n k = k ) $. u1 $a |- ( e9 e6 e4 n n n k = k ) $. ");
        r.reads(b.toString());
        r.due("equate(we)", r.x.equate(3), 1);
        r.prints(7, 30, 0, "|- " + Runs.times("n ", 512) + "k");
        r.prints(7, 31, 0, "|- " + Runs.times("n ", 256 + 64 + 16 + 4 + 2) + "k");
        r.prints(7, 32, 0, "|- " + Runs.times("n ", 8) + "k");
        r.printsNot(7, 33, 0, -2);
        r.prints(7, 34, 0, "|- " + Runs.times("n ", 512 + 64 + 16 + 4 + 2) + "k");
        r.printsNot(7, 35, 0, -2);
        r.printsNot(7, 38, 0, -2);
        r.prints(7, 39, 0, "|- k");
        r.printsNot(7, 40, 0, -2);
        r.prints(7, 41, 0, "|- ( " + Runs.times("n ", 594) + "k = k )");
        r.printsNot(7, 42, 0, -2);
        r.due("check()", r.x.check(), 1);
        StringBuilder more = new StringBuilder();
        for (int n = 0; n < 50; n++) {
            more.append("$c r").append(n).append(" $. wr").append(n).append(" $a wff r").append(n).append(" x $. dr").append(n)
                .append(" $a |- ( r").append(n).append(" x = e9 e2 ").append(Runs.times("n ", n)).append("x ) $. ");
        }
        r.reads(more + "z0 $a |- r49 k $. z1 $a |- r0 k $. z2 $a |- r30 r0 k $.");
        for (int round = 0; round < 3; round++) {
            r.prints(7, 143, 0, "|- " + Runs.times("n ", 516 + 49) + "k");
            r.prints(7, 144, 0, "|- " + Runs.times("n ", 516) + "k");
            r.printsNot(7, 145, 0, -2);
            r.due("equate(we)", r.x.equate(3), 0);
            r.prints(7, 143, 0, "|- r49 k");
            r.due("equate(we)", r.x.equate(3), 1);
        }
    }

    /** Promise 25. */
    private static void backwards() {
        Runs r = new Runs("backwards");
        r.reads(LOGIC + "${ g1 $e |- ( p -> x x q ) $. g $a |- ( q -> p ) $. h $a |- A. x ( q -> p ) $. $} "
            + "${ e1 $e |- p $. e2 $e wff p q p $. e3 $e |- -. $. three $a |- ( p -> q ) $. $} w2 $a wff q p $. ");
        int mp = 11;
        r.applies(7, "|- ( p -> ( -. q -> p ) )", 0, "");
        r.prints(0, 0, 0, "fp");
        r.applies(mp, "|- ( p -> p )", -1, "fp");
        r.applies(r.finds("g", 0), "|- ( p -> p )", -1, "fp");
        r.applies(r.finds("h", 0), "|- A. x ( -. q -> ( p -> p ) )", 1, "|- ( ( p -> p ) -> x x -. q )");
        r.applies(r.finds("three", 0), "|- ( -. p -> A. x q )", 3, "|- -. p , wff -. p A. x q -. p , |- -.");
        String was = "|- -. p , wff -. p A. x q -. p , |- -.";
        r.applies(7, "|- ( p -> ( q -> q ) )", -1, was);
        r.applies(7, "wff ( p -> ( q -> p ) )", -1, was);
        r.applies(7, "|- ( p -> -. p )", -1, was);
        r.applies(7, "|- p", -1, was);
        r.applies(7, "|- ( p -> ( q -> p )", -1, was);
        r.applies(7, "p", -1, was);
        r.applies(7, "|-", -1, was);
        r.applies(7, "", -1, was);
        r.applies(7, "|- ( p -> ( nothing -> p ) )", -1, was);
        r.applies(7, "|- ( p -> ( q -> p ) ) $( c $)", -1, was);
        r.applies(7, "|- ( p -> ( q -> p ) ) \u0001", -1, was);
        r.applies(0, "wff p", -1, was);
        r.applies(99, "|- p", -1, was);
        r.applies(7, "|- ( p p -> ( q -> p p ) )", 0, "");
        r.applies(7, "|- ( p p p -> ( q -> p p p ) )", -1, "");
        r.applies(4, "wff ( -. p -> p )", -1, "");
        r.prints(0, 0, 0, "fp");
        String sixty = "|- " + Runs.times("-. ", 58) + "p";
        r.reads("ne $a |- -. p $. ${ b1 $e |- p p $. back $a |- -. -. p $. $} lo $a |- " + Runs.times("-. ", 59) + "p $.");
        r.applies(r.finds("ne", 0), sixty, 0, "");
        r.applies(r.finds("back", 0), sixty, 1, "|- " + Runs.times("-. ", 56) + "p " + Runs.times("-. ", 56) + "p");
        was = r.shown();
        r.applies(r.finds("ne", 0), sixty + " p", -2, was);
        r.applies(r.finds("ne", 0), sixty + " nothing", -1, was);
        r.applies(0, sixty + " p", -1, was);
        r.reads("most $a |- " + Runs.times("-. ", 58) + "p $.");
        r.applies(r.finds("most", 0), sixty, 0, "");
        r.applies(r.finds("most", 0), "|- p", -1, "");
        r.applies(r.finds("back", 0), "|- -. -. p", 1, "|- p p");
        was = r.shown();
        r.applies(r.finds("lo", 0), "|- p", -2, was);
        r.applies(r.finds("lo", 0), "|- nothing", -1, was);
        inactive();
        tooLong();
    }

    /** Variables that were active once are known, with the type that they had. */
    private static void inactive() {
        Runs r = new Runs("inactive variables");
        r.reads("$c |- wff set n $. ${ $v p x $. fp $f wff p $. fx $f set x $. wn $a wff n p $. ${ h $e |- p $. a $a |- n p $. $} ${ k $e |- x $. b $a |- n p $. $} $} "
            + "${ $v p q $. f2 $f wff p $. $}");
        r.applies(4, "|- n n p", 1, "|- n p");
        r.applies(4, "|- n n q", -1, "|- n p");
        r.applies(4, "|- n n x", -1, "|- n p");
        r.applies(6, "|- n n p", -1, "|- n p");
        r.applies(6, "|- x", -1, "|- n p");
        r.applies(4, "|- n p \t\n p", -1, "|- n p");
    }

    private static void tooLong() {
        Runs r = new Runs("too long to print");
        String s = Runs.times("s", 60);
        r.reads("$c |- wff n , " + s + " $. $v x $. fx $f wff x $. ws $a wff " + s + " x $. wn $a wff n $. ${ h $e |- "
            + Runs.times("x ", 9) + "$. a $a |- x $. $} ${ k $e |- " + Runs.times("x ", 9) + "$. l $e |- x n , $. b $a |- x $. $} ${ m $e |- n $. c $a |- x $. $} ");
        /* 2 + 9 * 43 * 61 = 23609, with three rows more of nine times two or so. */
        String row = "|- " + Runs.times(s + " ", 43) + "n";
        r.put(row);
        r.due("apply(a)", r.x.apply(4), 1);
        r.due("printed", r.shown().length(), 2 + 9 * (43 * 61 + 2));
        r.put("|- " + Runs.times(s + " ", 44) + "n");
        r.due("apply(a) to more", r.x.apply(4), -2);
        r.due("printed", r.shown().length(), 2 + 9 * (43 * 61 + 2));
        r.put(row);
        r.due("apply(b)", r.x.apply(7), -2);
        r.due("printed", r.shown().length(), 2 + 9 * (43 * 61 + 2));
        r.applies(9, row, 1, "|- n");
    }

    /** Promise 26. */
    private static void checks() {
        Runs r = new Runs("check");
        r.reads(LOGIC);
        r.due("check()", r.x.check(), 1);
        r.reads("th $p |- ( q -> ( -. p -> q ) ) $= ( wn a1 ) BACD $. open $p |- p $= ? $.");
        r.due("check()", r.x.check(), 1);
        r.faulty("bad $p |- p $= fp ^$.", 19);
        r.due("check()", r.x.check(), 1);
    }

    public static void main(String[] args) {
        newObject();
        feedAndEnd();
        whatIsThere();
        frames();
        proofs();
        printing();
        packedAnew();
        trees();
        equalities();
        definitions();
        backwards();
        checks();
        Runs.finish();
    }
}
