/** Promises 2 to 21 and 26, sentence by sentence: the boundary cases that they name. */
public final class EdgesTest {
    private static final int BLANKS = 0x20202020;
    private static final String SIXTY = Runs.times("s", 60);
    private static final String LOGIC = "$c |- wff ( -> ) k $. $v p q r $. fp $f wff p $. fq $f wff q $. wi $a wff ( p -> q ) $. wk $a wff k $. "
        + "any $a |- p $. ${ m1 $e |- p $. m2 $e |- ( p -> q ) $. mp $a |- q $. $} ${ $d p q $. ap $a |- ( p -> q ) $. $} ";

    private static int feedBlanks(Runs r) {
        return r.x.feed(BLANKS, BLANKS, BLANKS, BLANKS, BLANKS);
    }

    /** Promise 2: twenty bytes, the highest first; FULL when it would be longer than 60000. */
    private static void feed() {
        Runs r = new Runs("feed");
        r.due("feed", r.x.feed(0x24762061, 0x62636465, 0x66676869, 0x6a6b6c6d, 0x20242e20), 20);
        r.due("read()", r.x.read(), 0);
        r.prints(1, 0, 0, "abcdefghijklm");
        r.due("feed", r.x.feed(BLANKS, BLANKS, BLANKS, BLANKS, 0x202020ff), 20);
        r.due("feed", r.x.feed(0xff000000, 0, 0, 0, 0), 40);
        r.due("read()", r.x.read(), 1);
        r.due("place()", r.x.place(), 19);
        r.due("feed", r.x.feed(Integer.MIN_VALUE, 0, 0, 0, 0), 20);
        r.due("read()", r.x.read(), 1);
        r.due("place()", r.x.place(), 0);
        r.due("feed", r.x.feed(0x2020207f, 0, 0, 0, 0), 20);
        r.due("read()", r.x.read(), 1);
        r.due("place()", r.x.place(), 3);
    }

    private static void fullTape() {
        Runs r = new Runs("a full tape");
        for (int n = 1; n <= 2999; n++) {
            r.due("feed", feedBlanks(r), 20 * n);
        }
        r.due("end(1)", r.x.end(1), 59961);
        r.due("feed", feedBlanks(r), 59981);
        for (int n = 0; n < 2; n++) {
            r.due("feed of one too many", r.x.feed(-1, -1, -1, -1, -1), -2);
            r.due("end(0)", r.x.end(0), -1);
        }
        r.due("read(): nothing was put", r.x.read(), 0);
        r.due("end(0)", r.x.end(0), -1);
        for (int n = 1; n <= 3000; n++) {
            r.due("feed", feedBlanks(r), 20 * n);
        }
        r.due("end(0)", r.x.end(0), 59980);
        r.due("feed", r.x.feed(BLANKS, BLANKS, BLANKS, BLANKS, 0x20202024), 60000);
        r.due("feed", feedBlanks(r), -2);
        r.due("read()", r.x.read(), 3);
        r.due("place()", r.x.place(), 59999);
        for (int n = 1; n < 3000; n++) {
            feedBlanks(r);
        }
        r.due("feed", r.x.feed(BLANKS, BLANKS, BLANKS, BLANKS, 0x20202061), 60000);
        r.due("read() of a label at the end", r.x.read(), 4);
        r.due("place()", r.x.place(), 60000);
        r.due("feed", r.x.feed(0x24282020, BLANKS, BLANKS, BLANKS, BLANKS), 20);
        for (int n = 2; n <= 3000; n++) {
            feedBlanks(r);
        }
        r.due("read() of a comment to the end", r.x.read(), 2);
        r.due("place()", r.x.place(), 60000);
    }

    /** Promise 3: what refuses, and that nothing is done then. */
    private static void end() {
        Runs r = new Runs("end");
        for (int n = -2; n < 23; n++) {
            r.due("end(" + n + ") before any feed()", r.x.end(n), -1);
        }
        for (int n = 0; n < 20; n++) {
            r.due("feed", feedBlanks(r), 20);
            r.due("end(-1)", r.x.end(-1), -1);
            r.due("end(20)", r.x.end(20), -1);
            r.due("end(lowest)", r.x.end(Integer.MIN_VALUE), -1);
            r.due("end(highest)", r.x.end(Integer.MAX_VALUE), -1);
            r.due("end(" + n + ")", r.x.end(n), n);
            r.due("end(" + n + ") again", r.x.end(n), -1);
            r.due("end(0)", r.x.end(0), -1);
            r.due("feed", feedBlanks(r), n + 20);
            r.due("end(0)", r.x.end(0), n);
            r.due("read()", r.x.read(), 0);
            r.due("end(0)", r.x.end(0), -1);
        }
        endAfterUse(r);
        r.due("feed", feedBlanks(r), 20);
        r.due("feed", r.x.feed(0x24782020, BLANKS, BLANKS, BLANKS, BLANKS), 40);
        r.due("end(2)", r.x.end(2), 22);
        r.due("read() of what stayed", r.x.read(), 3);
        r.due("place()", r.x.place(), 20);
    }

    private static void endAfterUse(Runs r) {
        for (int what = -1; what < 3; what++) {
            r.due("feed", feedBlanks(r), 20);
            r.due("find(" + what + ")", r.x.find(what), -1);
            r.due("end(0) after find(" + what + ")", r.x.end(0), -1);
        }
        r.due("feed", feedBlanks(r), 20);
        r.due("apply(-1)", r.x.apply(-1), -1);
        r.due("end(0) after apply()", r.x.end(0), -1);
        r.due("feed", r.x.feed(1, 1, 1, 1, 1), 20);
        r.due("read()", r.x.read(), 1);
        r.due("end(0) after read()", r.x.end(0), -1);
    }

    /** Promises 4 and 5: the place of the latest read() alone. */
    private static void place() {
        Runs r = new Runs("place");
        r.due("place()", r.x.place(), -1);
        r.faulty("$c a $. ^$x", 3);
        r.put("a");
        r.due("find(1)", r.x.find(1), -1);
        r.due("place() after find()", r.x.place(), 8);
        r.put("a");
        r.due("apply(0)", r.x.apply(0), -1);
        r.due("place() after apply()", r.x.place(), 8);
        r.reads("$c a $.");
        r.due("place()", r.x.place(), -1);
        r.faulty("^$.", 4);
        r.due("place()", r.x.place(), 0);
        r.due("read() of nothing", r.x.read(), 0);
        r.due("place()", r.x.place(), -1);
    }

    /** Promise 6: what is counted. */
    private static void counts() {
        Runs r = new Runs("counts");
        for (int what = 0; what < 10; what++) {
            r.due("count(" + what + ") of nothing", r.x.count(what), 0);
        }
        r.reads(LOGIC + "$c last $. ${ $v s $. $} th $p |- ( p -> k ) $= ( wk wi any ) ABCD $. to $p |- k $= ( wk any wi ) ?AZA? $. "
            + "tp $p |- k $= any mp ? wk $. tq $p |- ( k -> k ) $= ( wk wi any ) AABZC $. ");
        int[] due = {13, 11, 7, 2, 2, 5, 4, 2, 4 + 2 + 3 + 4, 1};
        for (int what = 0; what < 10; what++) {
            r.due("count(" + what + ")", r.x.count(what), due[what]);
        }
        int[] others = {-1, 10, Integer.MAX_VALUE, Integer.MIN_VALUE};
        for (int what : others) {
            r.due("count(" + what + ")", r.x.count(what), -1);
        }
    }

    /** Promises 7 to 26: no such statement, symbol, row, hypothesis, character. */
    private static void wrongNumbers() {
        Runs r = new Runs("wrong numbers");
        r.reads(LOGIC + "th $p |- ( p -> k ) $= ( wk wi any ) ABCD $.");
        r.prints(0, 9, 0, "th");
        int[] wrong = {-1, 10, Integer.MAX_VALUE, Integer.MIN_VALUE};
        for (int i : wrong) {
            String n = "(" + i + ")";
            int[] answers = {r.x.kind(i), r.x.length(i), r.x.symbol(i, 0), r.x.symbol(9, i), r.x.variable(i), r.x.frame(i, 0), r.x.frame(9, i),
                r.x.hypothesis(i, 0), r.x.hypothesis(9, i), r.x.apart(i, 6, 7), r.x.rows(i), r.x.row(i, 0), r.x.row(9, i), r.x.from(i, 2, 0),
                r.x.from(9, i, 0), r.x.from(9, 2, i), r.x.rests(i, 4), r.x.rests(9, i), (int) r.x.size(i), r.x.trees(i), r.x.equate(i),
                r.x.definition(i), r.x.character(i)};
            for (int k = 0; k < answers.length; k++) {
                r.due("answer " + k + " to " + n, answers[k], -1);
            }
            r.due("apart(8, p, " + i + ")", r.x.apart(8, 6, i), 0);
            r.due("apart(8, " + i + ", p)", r.x.apart(8, i, 6), 0);
            r.put("|- k");
            r.due("apply" + n, r.x.apply(i), -1);
            for (int what = 0; what < 9; what++) {
                r.printsNot(what, i, 0, -1);
            }
            r.printsNot(i, 9, 0, -1);
            r.printsNot(3, 9, i, -1);
        }
    }

    /** Promises 8 to 10: the last ones there are, and the next. */
    private static void symbols() {
        Runs r = new Runs("symbols");
        r.reads(LOGIC + "one $a |- $. ${ $v old $. in $f wff old $. $}");
        int[][] due = {{1, 6}, {1, 7}, {1, 2, 6, 3, 7, 4}, {1, 5}};
        for (int i = 0; i < due.length; i++) {
            r.due("length(" + i + ")", r.x.length(i), due[i].length);
            for (int k = -1; k <= due[i].length; k++) {
                r.due("symbol(" + i + ", " + k + ")", r.x.symbol(i, k), k < 0 || k == due[i].length ? -1 : due[i][k]);
            }
        }
        r.due("length(one)", r.x.length(9), 1);
        r.due("symbol(one, 0)", r.x.symbol(9, 0), 0);
        r.due("symbol(one, 1)", r.x.symbol(9, 1), -1);
        for (int s = -1; s < 12; s++) {
            r.due("variable(" + s + ")", r.x.variable(s), s < 0 || s > 9 ? -1 : s < 6 ? 0 : 1);
        }
        int[] kinds = {0, 0, 2, 2, 2, 1, 1, 2, 2, 2, 0, -1};
        for (int i = 0; i < kinds.length; i++) {
            r.due("kind(" + i + ")", r.x.kind(i), kinds[i]);
        }
    }

    /** Promise 11. */
    private static void find() {
        Runs r = new Runs("find");
        r.reads(LOGIC + "${ $v old $. in $f wff old $. $} ");
        r.due("find in", r.finds("in", 0), 9);
        r.due("find old", r.finds("old", 1), 9);
        String[] none = {"", " ", "\t\n\f\r ", "fp fq", "fp fp", "fp $( c $)", "$( fp $)", "$(", "$)", "$f", "fp$", "f", "fpp", "FP", "fp\u0000", "\u0001fp",
            "fp \u007f", "\u0080 fp", "fp\u000b", "|-", "p", Runs.times("f", 61)};
        for (String t : none) {
            r.due("find(0) of " + t, r.finds(t, 0), -1);
            r.due("find(0) of what was used", r.x.find(0), -1);
        }
        String[] one = {"fp", " fp", "fp ", "\t\n\f\r fp\t\n\f\r ", Runs.times(" ", 100) + "fp" + Runs.times(" ", 100)};
        for (String t : one) {
            r.due("find(0) of " + t, r.finds(t, 0), 0);
            r.due("find(0) of what was used", r.x.find(0), -1);
            int[] others = {1, 2, -1, Integer.MAX_VALUE, Integer.MIN_VALUE};
            for (int what : others) {
                r.due("find(" + what + ") of " + t, r.finds(t, what), -1);
            }
            r.due("find(0) of what was used", r.x.find(0), -1);
        }
        String[] names = {"|-", "wff", "(", "->", ")", "k", "p", "q", "r"};
        for (int s = 0; s < names.length; s++) {
            r.due("find(1) of " + names[s], r.finds(names[s], 1), s);
            r.due("find(0) of " + names[s], r.finds(names[s], 0), -1);
        }
        r.faulty("$c new $. gone $a wff $. ^$.", 4);
        r.due("find new", r.finds("new", 1), -1);
        r.due("find gone", r.finds("gone", 0), -1);
    }

    /** A thousand names that differ in one character, found again each. */
    private static void findMany() {
        Runs r = new Runs("many names");
        StringBuilder text = new StringBuilder("$v ");
        String[] names = new String[1000];
        for (int n = 0; n < 1000; n++) {
            /* Neither '$' nor the mark of a fault. */
            int first = n % 89 + 37;
            names[n] = (char) (first < '^' ? first : first + 1) + "n" + (char) (n / 89 + '0');
            text.append(names[n]).append(' ');
        }
        r.reads(text + "$.");
        for (int n = 0; n < 1000; n++) {
            r.due("find(1) of " + names[n], r.finds(names[n], 1), n);
            r.prints(1, n, 0, names[n]);
        }
    }

    /** Names that begin like others; a sum over the characters alone might mix some of them up. */
    private static void findBeginnings() {
        Runs r = new Runs("beginnings of names");
        String[] longer = {"acvn", "ahlm", "alpn", "apcs", "atgr", "!!I", "#fm", "&ab"};
        String[] shorter = {"acv", "ahl", "alp", "apc", "atg", "!", "#", "&"};
        r.reads("$v " + String.join(" ", longer) + " $.");
        for (int n = 0; n < longer.length; n++) {
            r.due("find(1) of " + longer[n], r.finds(longer[n], 1), n);
            r.due("find(1) of " + shorter[n], r.finds(shorter[n], 1), -1);
        }
        r.reads("$c " + String.join(" ", shorter) + " $.");
        for (int n = 0; n < longer.length; n++) {
            r.due("find(1) of " + longer[n], r.finds(longer[n], 1), n);
            r.due("find(1) of " + shorter[n], r.finds(shorter[n], 1), 8 + n);
        }
    }

    /** Promises 12 to 14: frames of axioms, theorems, open ones; none of hypotheses. */
    private static void frames() {
        Runs r = new Runs("frames");
        r.reads(LOGIC + "e1 $e |- k $. th $p |- k $= e1 $. to $p |- k $= ? $. tp $p |- p $= ( any ) AC $.");
        int[][] due = {{1, 0, 0}, {1, 0, 0}, {1, 0, -1}, {2, 0, 1}};
        int[] assertions = {4, 10, 11, 12};
        for (int n = 0; n < assertions.length; n++) {
            for (int what = -1; what < 4; what++) {
                String call = "frame(" + assertions[n] + ", " + what + ")";
                r.due(call, r.x.frame(assertions[n], what), what < 0 || what > 2 ? -1 : due[n][what]);
            }
        }
        r.due("hypothesis(th, 0)", r.x.hypothesis(10, 0), 9);
        r.due("hypothesis(th, 1)", r.x.hypothesis(10, 1), -1);
        r.due("hypothesis(to, 0)", r.x.hypothesis(11, 0), 9);
        r.due("hypothesis(mp, 3)", r.x.hypothesis(7, 3), 6);
        r.due("hypothesis(mp, 4)", r.x.hypothesis(7, 4), -1);
        r.due("hypothesis(wk, 0)", r.x.hypothesis(3, 0), -1);
        r.due("frame(wk, 0)", r.x.frame(3, 0), 0);
        int[] hypotheses = {0, 1, 5, 6, 9};
        for (int i : hypotheses) {
            for (int what = -1; what < 4; what++) {
                r.due("frame(" + i + ", " + what + ")", r.x.frame(i, what), -1);
            }
            r.due("hypothesis(" + i + ", 0)", r.x.hypothesis(i, 0), -1);
            r.due("apart(" + i + ", p, q)", r.x.apart(i, 6, 7), -1);
            r.due("rests(th, " + i + ")", r.x.rests(10, i), -1);
        }
        r.due("apart(ap, p, q)", r.x.apart(8, 6, 7), 1);
        r.due("apart(ap, q, p)", r.x.apart(8, 7, 6), 1);
        r.due("apart(ap, p, p)", r.x.apart(8, 6, 6), 0);
        r.due("apart(ap, p, k)", r.x.apart(8, 6, 5), 0);
        r.due("apart(any, p, q)", r.x.apart(4, 6, 7), 0);
        r.due("apart(to, p, q)", r.x.apart(11, 6, 7), 0);
    }

    /** Promises 12 and 15 to 20: what rests on what, through open theorems, too. */
    private static void rests() {
        Runs r = new Runs("rests");
        r.reads("$c t u $. $v x $. fx $f t x $. a $a t $. b $a u $. ${ h $e t $. c $a u $. $} ${ h2 $e u $. d $a t $. $} "
            + "p1 $p u $= a c $. p2 $p t $= p1 d $. o1 $p t $= ( b ) ? $. o2 $p t $= p2 ? $. o3 $p t $= ( o2 b ) A ? $. p3 $p t $= o1 $. p4 $p t $= o3 $. "
            + "o4 $p t $= ? $. p5 $p u $= ( o4 c ) AB $. p6 $p t x $= fx $. o5 $p t x $= fx ? $. o6 $p u $= ( a c ) AZBZD? $. p7 $p u $= o6 $.");
        String[] all = {"a", "b", "c", "d", "p1", "p2", "o1", "o2", "o3", "p3", "p4", "o4", "p5", "p6", "o5", "o6", "p7"};
        rest(r, all, "p1", "a c");
        rest(r, all, "p2", "a c d p1");
        rest(r, all, "p3", "o1");
        rest(r, all, "p4", "a c d p1 p2 o2 o3");
        rest(r, all, "p5", "c o4");
        rest(r, all, "p6", "");
        rest(r, all, "p7", "a c o6");
        String[] open = {"o1", "o2", "o3", "o4", "o5", "o6"};
        for (String o : open) {
            int i = r.finds(o, 0);
            long[] answers = {r.x.frame(i, 2), r.x.rows(i), r.x.size(i), r.x.row(i, 0), r.x.from(i, 0, 0), r.x.rests(i, 1)};
            for (int k = 0; k < answers.length; k++) {
                r.due("answer " + k + " to " + o, answers[k], -1);
            }
            for (int what = 3; what < 6; what++) {
                r.printsNot(what, i, 0, -1);
            }
        }
        for (int i = 0; i < 6; i++) {
            r.due("rests(" + i + ", 1), no theorem", r.x.rests(i, 1), -1);
            r.due("rows(" + i + "), no theorem", r.x.rows(i), -1);
            r.due("size(" + i + "), no theorem", r.x.size(i), -1);
        }
        r.due("check()", r.x.check(), 1);
    }

    private static void rest(Runs r, String[] all, String theorem, String on) {
        int i = r.finds(theorem, 0);
        int count = 0;
        for (String k : all) {
            boolean due = (" " + on + " ").contains(" " + k + " ");
            count += due ? 1 : 0;
            r.due("rests(" + theorem + ", " + k + ")", r.x.rests(i, r.finds(k, 0)), due ? 1 : 0);
        }
        r.due("frame(" + theorem + ", 2)", r.x.frame(i, 2), count);
    }

    /** Promises 15 to 17: numbers of saved rows make none; a row without mandatory hypotheses comes from none. */
    private static void rows() {
        Runs r = new Runs("rows");
        r.reads(LOGIC + "l $p |- ( ( p -> k ) -> ( p -> k ) ) $= ( wk wi any ) ABCZECD $.");
        r.due("rows(l)", r.x.rows(9), 5);
        int[] rows = {0, 3, 2, 2, 4};
        int[][] from = {{}, {}, {0, 1}, {2, 2}, {3}};
        for (int k = -1; k < 6; k++) {
            boolean is = k >= 0 && k < 5;
            r.due("row(l, " + k + ")", r.x.row(9, k), is ? rows[k] : -1);
            for (int h = -1; h < 4; h++) {
                r.due("from(l, " + k + ", " + h + ")", r.x.from(9, k, h), is && h >= 0 && h < from[k].length ? from[k][h] : -1);
            }
        }
        r.prints(3, 9, 4, "|- ( ( p -> k ) -> ( p -> k ) )");
        r.prints(3, 9, 1, "wff k");
        r.prints(3, 9, 0, "wff p");
        r.due("size(l)", r.x.size(9), 8);
        r.prints(5, 9, 0, "fp wk wi fp wk wi wi any");
        r.prints(4, 9, 0, "( wk wi any ) ABCZECD");
        r.reads("m $p |- k $= wk any $. n $p wff p $= fp $. o $p |- k $= m $.");
        r.due("rows(o)", r.x.rows(12), 1);
        r.due("row(o, 0)", r.x.row(12, 0), 10);
        r.due("from(o, 0, 0)", r.x.from(12, 0, 0), -1);
        r.due("size(o)", r.x.size(12), 1);
        r.due("rows(n)", r.x.rows(11), 1);
        r.due("size(n)", r.x.size(11), 1);
        r.prints(3, 11, 0, "wff p");
    }

    /** Promise 20: which rows are the same, and where they are saved. */
    private static void packedAnew() {
        Runs r = new Runs("packed anew");
        r.reads("$c t u ( ) $. $v x y $. fx $f t x $. fy $f t y $. p $a t ( x y ) $. q $a t ( x y ) $. w $a t ( x ) $. u0 $a u $. "
            + "${ h $e u x $. s $a u ( x ) $. $} ${ h1 $e u x $. h2 $e u y $. j $a u ( x y ) $. $} ");
        /* Two hypotheses with the same symbols are not the same one. */
        r.reads("${ e1 $e u x $. e2 $e u x $. a $p u ( ( x ) ( x ) ) $= fx w fx w fx e1 s fx e2 s j $. "
            + "b $p u ( ( x ) ( x ) ) $= fx w fx w fx e1 s fx e1 s j $. $}");
        r.prints(4, r.finds("a", 0), 0, "( w s j ) ADZGABEACEF");
        r.prints(4, r.finds("b", 0), 0, "( w s j ) ADZGABEZHF");
        r.prints(5, r.finds("b", 0), 0, "fx w fx w fx e1 s fx e1 s j");
        /* Two assertions with the same symbols are not the same one. */
        r.reads("c $p t ( ( x y ) ( x y ) ) $= fx fy p fx fy q p $.");
        r.prints(4, r.finds("c", 0), 0, "( p q ) ABCABDC");
        /* The same hypotheses in another order do not make the same row. */
        r.reads("d $p t ( ( x y ) ( y x ) ) $= fx fy p fy fx p p $.");
        r.prints(4, r.finds("d", 0), 0, "( p ) ABCBACC");
        /* An assertion without mandatory hypotheses is told again; one with them is saved, however short it is. */
        r.reads("e0 $a t $. f $p t ( ( ) ( ) ) $= e0 w e0 w p $. g $p t ( ) $= e0 e0 p $.");
        r.prints(4, r.finds("f", 0), 0, "( e0 w p ) ABZDC");
        r.prints(4, r.finds("g", 0), 0, "( e0 p ) AAB");
        /* What was saved but does not come again is not saved. */
        r.reads("i $p t ( ( x y ) x ) $= ( p ) ABCZACZ $.");
        r.prints(4, r.finds("i", 0), 0, "( p ) ABCAC");
        /* Rows that are the same from here and there: by a saved row, and by one that is made again. */
        r.reads("k $p t ( ( ( x ) ( x ) ) ( ( x ) ( x ) ) ) $= ( w p ) ABZDCABABCC $.");
        r.prints(4, r.finds("k", 0), 0, "( w p ) ABZDCZEC");
        r.due("rows(k)", r.x.rows(r.finds("k", 0)), 9);
        r.due("size(k)", r.x.size(r.finds("k", 0)), 11);
        r.due("check()", r.x.check(), 1);
        manyLabels();
    }

    private static void manyLabels() {
        Runs r = new Runs("many labels");
        StringBuilder text = new StringBuilder("$c t $. z0 $a t $. ${ h $e t $. ");
        StringBuilder labels = new StringBuilder("z0 ");
        for (int n = 1; n <= 125; n++) {
            text.append("c").append(n).append(" $a t $. ");
            labels.append("c").append(n).append(' ');
        }
        r.reads(text + "$} ");
        r.reads("th $p t $= " + labels + "$.");
        StringBuilder letters = new StringBuilder("ABCDEFGHIJKLMNOPQRST");
        for (char before = 'U'; before <= 'Y'; before++) {
            for (char last = 'A'; last <= 'T'; last++) {
                letters.append(before).append(last);
            }
        }
        r.prints(4, 127, 0, "( " + labels + ") " + letters + "UUAUUBUUCUUDUUEUUF");
        r.prints(5, 127, 0, labels.toString().trim());
    }

    /** Promise 20: 24000 characters are printed, one more is FULL. */
    private static void longestRows() {
        Runs r = new Runs("the longest row that is printed");
        r.reads("$c t " + SIXTY + " " + Runs.times("m", 25) + " " + Runs.times("n", 26) + " $. $v x $. fx $f t x $. x3 $a t x x x $. l $a t "
            + Runs.times(SIXTY + " ", 131) + "$. m $a t x " + Runs.times("m", 25) + " $. n $a t x " + Runs.times("n", 26)
            + " $. ${ h $e t x $. done $a t $. $} th $p t $= l x3 m l x3 m done $. ti $p t $= l x3 n l x3 n done $.");
        String row = "t " + Runs.times(SIXTY + " ", 393);
        r.prints(3, 7, 2, row + Runs.times("m", 25));
        r.due("printed", r.shown().length(), 24000);
        r.due("character(23999)", r.x.character(23999), 'm');
        r.due("character(24000)", r.x.character(24000), -1);
        r.printsNot(3, 8, 2, -2);
        r.prints(3, 8, 1, row.trim());
    }

    private static void longestProofs() {
        Runs r = new Runs("the longest proof that is printed");
        String two = Runs.times("b", 60);
        String other = Runs.times("c", 22);
        r.reads("$c t $. zero $a t $. ${ h $e t $. " + two + " $a t $. " + other + " $a t $. " + other + "c $a t $. $} "
            + "th $p t $= ( zero " + two + " " + other + " ) A" + Runs.times("B", 393) + "C $. "
            + "ti $p t $= ( zero " + two + " " + other + "c ) A" + Runs.times("B", 393) + "C $.");
        r.prints(5, 5, 0, "zero " + Runs.times(two + " ", 393) + other);
        r.due("printed", r.shown().length(), 24000);
        r.printsNot(5, 6, 0, -2);
        Runs q = new Runs("the longest packed proof that is printed");
        StringBuilder text = new StringBuilder("$c t $. zero $a t $. zeros $a t $. ${ h $e t $. ");
        StringBuilder labels = new StringBuilder();
        StringBuilder letters = new StringBuilder("A");
        for (int n = 101; n <= 477; n++) {
            text.append(Runs.times("l", 57)).append(n).append(" $a t $. ");
            labels.append(Runs.times("l", 57)).append(n).append(' ');
            letters.append(Model.letters(n - 99));
        }
        q.reads(text + "$} ");
        q.reads("th $p t $= zero " + labels + "$.");
        q.reads("ti $p t $= zeros " + labels + "$.");
        q.prints(4, 380, 0, "( zero " + labels + ") " + letters);
        q.due("printed", q.shown().length(), 24000);
        q.printsNot(4, 381, 0, -2);
        q.due("check()", q.x.check(), 1);
    }

    /** Chains of rules of one variable, above four leaves, make a tree of 24000 characters. */
    private static void longestTree() {
        for (int more = 0; more < 2; more++) {
            Runs r = new Runs("the longest tree that is printed");
            StringBuilder text = new StringBuilder("$c |- wff ");
            for (int n = 1; n <= 97; n++) {
                text.append("s").append(n).append(' ');
            }
            text.append("$. $v a b c d e ");
            for (int n = 1; n <= 97; n++) {
                text.append("v").append(n).append(' ');
            }
            String leaf = Runs.times("e", 27 + more);
            text.append("$. fa $f wff a $. fb $f wff b $. fc $f wff c $. fd $f wff d $. ").append(leaf).append(" $f wff e $. ");
            String last = Runs.times("f", 60);
            String root = Runs.times("r", 60);
            StringBuilder chain = new StringBuilder();
            for (int n = 1; n <= 97; n++) {
                String rule = Runs.times("u", 57) + (100 + n);
                text.append(n == 97 ? last : "f" + n).append(" $f s").append(n).append(" v").append(n).append(" $. ");
                text.append(rule).append(" $a ").append(n == 1 ? "wff" : "s" + (n - 1)).append(" v").append(n).append(" $. ");
                chain.insert(0, rule + " ");
            }
            r.reads(text + root + " $a wff a b c d e $. g $a |- v97 v97 v97 v97 e $. ");
            int g = r.finds("g", 0);
            r.due("trees(g)", r.x.trees(g), 1);
            if (more > 0) {
                r.printsNot(6, g, 0, -2);
            } else {
                r.prints(6, g, 0, Runs.times(last + " " + chain, 4) + leaf + " " + root);
                r.due("printed", r.shown().length(), 24000);
            }
            r.due("check()", r.x.check(), 1);
        }
    }

    private static void longestWithout() {
        Runs r = new Runs("the longest row without definitions that is printed");
        String q22 = Runs.times("q", 22);
        String q23 = Runs.times("q", 23);
        r.reads("$c |- wff ( = ) d k " + SIXTY + " " + q22 + " " + q23 + " $. $v x y $. fx $f wff x $. fy $f wff y $. we $a wff ( x = y ) $. wk $a wff k $. "
            + "wd $a wff d x $. ws $a wff " + SIXTY + " x $. wq $a wff " + q22 + " x $. wr $a wff " + q23 + " x $. df $a |- ( d x = "
            + Runs.times(SIXTY + " ", 53) + "x ) $. a $a |- " + Runs.times("d ", 7) + Runs.times(SIXTY + " ", 22) + q22 + " k $. b $a |- "
            + Runs.times("d ", 7) + Runs.times(SIXTY + " ", 22) + q23 + " k $.");
        r.due("equate(we)", r.x.equate(2), 1);
        r.due("definition(df)", r.x.definition(8), 4);
        r.prints(7, 9, 0, "|- " + Runs.times(SIXTY + " ", 393) + q22 + " k");
        r.due("printed", r.shown().length(), 24000);
        r.printsNot(7, 10, 0, -2);
    }

    /** Promises 20, 21, 25: an answer of NONE or FULL leaves what was printed, apply()'s 0 does not. */
    private static void whatStays() {
        Runs r = new Runs("what stays printed");
        r.due("character(0)", r.x.character(0), -1);
        r.printsNot(0, 0, 0, -1);
        r.reads(LOGIC + "${ a1 $e |- ( p -> p ) $. a $a |- ( p -> q ) $. $} lo $a |- " + Runs.times("k ", 60) + "$.");
        r.prints(2, 8, 0, "|- ( p -> q )");
        r.printsNot(6, 11, 0, -2);
        r.printsNot(7, 11, 0, -2);
        r.printsNot(6, 3, 0, -1);
        r.printsNot(4, 8, 0, -1);
        r.applies(10, "|- ( k -> q )", 1, "|- ( k -> k )");
        r.applies(10, "|- k", -1, "|- ( k -> k )");
        r.applies(11, "|- k", -2, "|- ( k -> k )");
        r.applies(8, "|- ( k -> k )", 0, "");
        r.due("character(0)", r.x.character(0), -1);
        r.printsNot(8, 0, 0, -1);
        r.prints(1, 0, 0, "|-");
        r.due("character(1)", r.x.character(1), '-');
        r.due("character(2)", r.x.character(2), -1);
    }

    public static void main(String[] args) {
        feed();
        fullTape();
        end();
        place();
        counts();
        wrongNumbers();
        symbols();
        find();
        findMany();
        findBeginnings();
        frames();
        rests();
        rows();
        packedAnew();
        longestRows();
        longestProofs();
        longestTree();
        longestWithout();
        whatStays();
        Runs.finish();
    }
}
