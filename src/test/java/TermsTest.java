/** The document's 'Terms', sentence by sentence: the boundary cases that they name. */
public final class TermsTest {
    private static boolean isBlank(int c) {
        return c == 9 || c == 10 || c == 12 || c == 13 || c == 32;
    }

    private static boolean isVisible(int c) {
        return c >= 33 && c <= 126;
    }

    private static boolean isLabelCharacter(int c) {
        return "abcdefghijklmnopqrstuvwxyzABCDEFGHIJKLMNOPQRSTUVWXYZ0123456789.-_".indexOf(c) >= 0;
    }

    /** Five blanks; 33 to 126 make tokens; any other character is fault 1. */
    private static void everyCharacter() {
        Runs r = new Runs("every character");
        r.reads("$c name $.");
        for (int c = 0; c < 256; c++) {
            String sign = Character.toString((char) c);
            r.faulty("$( a ^" + sign + " $)", isBlank(c) || isVisible(c) ? 0 : 1);
            if (isBlank(c)) {
                r.faulty(sign + "^$x", 3);
                r.reads("${ $v one" + sign + "two $. $}");
            } else if (!isVisible(c)) {
                r.faulty("^" + sign, 1);
                r.faulty("$v one^" + sign + "two $.", 1);
            } else if (c == '$') {
                r.faulty("^$ $x", 3);
                r.faulty("$v ^one$two $.", 3);
            } else {
                visibleCharacter(r, sign);
            }
            r.put("name" + sign);
            r.due("find() of a name and " + c, r.x.find(1), isBlank(c) ? 0 : -1);
            r.put(sign + "name");
            r.due("find() of " + c + " and a name", r.x.find(1), isBlank(c) ? 0 : -1);
        }
    }

    /** In a symbol any of them can stand, in a label letters, digits, '.', '-', '_'. */
    private static void visibleCharacter(Runs r, String sign) {
        boolean label = isLabelCharacter(sign.charAt(0));
        r.faulty(label ? sign + " ^$x" : "^" + sign + " $x", label ? 3 : 6);
        r.faulty(label ? "l" + sign + "m ^$x" : "^l" + sign + "m $x", label ? 3 : 6);
        int symbols = r.x.count(1);
        r.put("$v one" + sign + "two $.");
        r.due("read() of a symbol with " + sign, r.x.read(), 0);
        r.due("count(1) behind a symbol with " + sign, r.x.count(1), symbols + 1);
        r.prints(1, symbols, 0, "one" + sign + "two");
    }

    private static final String[] KEYWORDS = {"$c", "$v", "$d", "$f", "$e", "$a", "$p", "$=", "$.", "${", "$}"};

    /** Beginnings of texts, and the keywords that can stand behind them. A proof's end is told elsewhere. */
    private static final String[][] STATES = {
        {"", "$c $v $d ${"}, {"${ ", "$v $d ${ $}"}, {"${ ${ $} ", "$v $d ${ $}"}, {"${ $} ", "$c $v $d ${"},
        {"l ", "$f $e $a $p"}, {"${ l ", "$f $e $a $p"},
        {"$c ", ""}, {"$c q ", "$."}, {"$c q p ", "$."}, {"$v ", ""}, {"$v q ", "$."}, {"$v q p ", "$."},
        {"$d ", ""}, {"$d x ", ""}, {"$d x y ", "$."}, {"$d x y z ", "$."},
        {"l $f ", ""}, {"l $f t ", ""}, {"l $f t z ", "$."}, {"l $e ", ""}, {"l $e t ", "$."}, {"l $e t x ", "$."},
        {"l $a ", ""}, {"l $a t ", "$."}, {"l $a t x ", "$."}, {"l $p ", ""}, {"l $p t ", "$="}, {"l $p t x ", "$="},
        {"l $p t x $= ", "end"}, {"l $p t x $= fx ", "end"}, {"l $p t x $= ? ", "end"}, {"l $p t x $= fx ax ", "end"},
        {"l $p t x $= ( ", ""}, {"l $p t x $= ( ax ", ""}, {"l $p t x $= ( ax ) ", "end"}, {"l $p t x $= ( ax ) AB ", "end"},
        {"l $p t x $= ( ax ) U ", "end"}, {"l $p t x $= ( ax ) ? ", "end"},
    };

    /** Fault 4: each keyword behind each beginning; faults 1 to 3 and comments behind each. */
    private static void everyState() {
        Runs r = new Runs("every state");
        r.reads("$c t u $. $v x y z $. fx $f t x $. fy $f t y $. ax $a t x $.");
        for (String[] state : STATES) {
            String begin = state[0];
            for (String k : KEYWORDS) {
                if (k.equals("$.") && state[1].equals("end")) {
                    continue;
                }
                boolean can = (" " + state[1] + " ").contains(" " + k + " ");
                boolean scope = k.equals("$c") && (begin.equals("${ ") || begin.equals("${ ${ $} "));
                r.faulty(can ? begin + k + " ^$x" : begin + "^" + k + " $x", can ? 3 : scope ? 8 : 4);
                r.faulty(can ? begin + "$( $c $. $) " + k + " ^$x" : begin + "$( $c $. $) ^" + k, can ? 3 : scope ? 8 : 4);
            }
            r.faulty(begin + "^$)", 2);
            r.faulty(begin + "^$x", 3);
            r.faulty(begin + "^\u0001", 1);
            r.faulty(begin + "$( ^$( $)", 2);
            r.faulty(begin + "$( ^", 2);
            r.faulty(begin + "$( $c $. ^", 2);
            boolean whole = begin.equals("") || begin.equals("${ $} ");
            r.faulty(begin + "^", whole ? 0 : 4);
            r.faulty(begin + "\n$( c $)\t^", whole ? 0 : 4);
        }
        r.faulty("l ^m $a t $.", 4);
        r.faulty("l $f t z ^x $.", 4);
        r.faulty("l $f t z ^nothing $.", 4);
        r.faulty("l $f t z ^t $.", 4);
        r.faulty("${ l $a t $. ^$c q $. $}", 8);
        r.faulty("^$} ", 4);
        r.faulty("${ ${ $} ^", 4);
    }

    private static void comments() {
        Runs r = new Runs("comments");
        r.reads("$( $)");
        r.faulty("^$($) $)", 3);
        r.faulty("$( $) ^$) ", 2);
        r.faulty("$( a ^$($) $)", 2);
        r.faulty("$( a ^$( $)", 2);
        r.faulty("$( a ^a$( $)", 2);
        r.faulty("$( a ^$)$) $)", 2);
        r.faulty("$( a ^a$) $)", 2);
        r.faulty("$( a ^$)a\u0001 $)", 2);
        r.faulty("$( a$^\u0001( $)", 1);
        r.reads("$( $ $c a$ $x $$ ) ( $ ) $$. $)");
        r.reads("$( 1 $) $c $( 2 $) t $( 3 $) $. $( 4 $) $v $( 5 $) x $. f $( 6 $) $f $( 7 $) t $( 8 $) x $( 9 $) $. ${ $( 10 $) $} "
            + "a $a t $( 11 $) x $. b $p t x $= $( 12 $) ( $( 13 $) a $( 14 $) ) $( 15 $) A $( Z $) B $( 16 $) $. $( 17 $)");
        r.due("rows(2)", r.x.rows(2), 2);
        r.due("kind(3)", r.x.kind(3), -1);
    }

    /** What is declared is active up to its scope's end, outside of scopes for good. */
    private static void scopes() {
        Runs r = new Runs("scopes");
        r.reads("$c t $. $v x $. ${ $v y $. fx $f t x $. fy $f t y $. ${ ex $e t x $. $d x y $. in $a t x y $. $} a $a t x y $. $}");
        r.due("frame(in, 0)", r.x.frame(3, 0), 3);
        r.due("frame(in, 1)", r.x.frame(3, 1), 1);
        r.due("frame(a, 0)", r.x.frame(4, 0), 2);
        r.due("frame(a, 1)", r.x.frame(4, 1), 0);
        r.faulty("l $a t ^y $.", 9);
        r.faulty("l $f t ^y $.", 9);
        r.faulty("$d x ^y $.", 9);
        r.faulty("l $a t ^x $.", 11);
        r.faulty("l $p t $= ^ex $.", 13);
        r.faulty("l $p t $= ^fy $.", 13);
        r.faulty("l $p t $= ( ^fx ) A $.", 13);
        r.faulty("^fx $f t x $.", 7);
        r.faulty("^y $a t $.", 7);
        r.reads("$v y $. f2 $f t x $. f3 $f t y $. c $a t x y $.");
        r.due("frame(c, 0)", r.x.frame(7, 0), 2);
        r.due("frame(c, 1)", r.x.frame(7, 1), 0);
        r.due("hypothesis(c, 0)", r.x.hypothesis(7, 0), 5);
        r.reads("$d y x $.");
        r.reads("${ $d x y $. $} d $a t x y $.");
        r.due("frame(d, 1)", r.x.frame(8, 1), 1);
        r.reads("e $e t x y $.");
        r.reads("g $a t $. ${ h $e t $. i $a t $. j $e t $. k $p t $= ? $. $} m $a t $.");
        int[] frames = {3, -1, 4, -1, 5, 3};
        for (int n = 0; n < frames.length; n++) {
            r.due("frame(" + (10 + n) + ", 0)", r.x.frame(10 + n, 0), frames[n]);
        }
        r.due("frame(k, 1)", r.x.frame(14, 1), 1);
        r.reads("n $p t x y $= e $.");
        r.faulty("o $p t $= ^h $.", 13);
        r.faulty("o $p t $= ^o $.", 13);
        r.faulty("o $p t $= ^p $. p $a t $.", 13);
        variables();
    }

    /** A variable's scope is its own, whatever was declared within, before or again. */
    private static void variables() {
        Runs r = new Runs("variables");
        r.reads("$v x y $. ${ $v z $. $} $d x y $. ${ $v z w $. ${ $v u $. $d x u $. $} $d z w $. $} $c t $. fx $f t x $. fy $f t y $. ${ $v z $. fz $f t z $. a $a t z $. $} b $a t x y $.");
        r.due("variable(z)", r.x.variable(2), 1);
        r.due("variable(w)", r.x.variable(3), 1);
        r.due("variable(u)", r.x.variable(4), 1);
        r.due("frame(a, 0)", r.x.frame(3, 0), 1);
        r.due("frame(b, 1)", r.x.frame(4, 1), 1);
        String[] inactive = {"z", "w", "u"};
        for (String v : inactive) {
            r.faulty("$d x ^" + v + " $.", 9);
            r.faulty("l $a t ^" + v + " $.", 9);
            r.faulty("$c ^" + v + " $.", 7);
        }
        r.reads("${ $v w z $. $} $v z $. ${ $v u $. $} $d x y z $. ${ $v u w $. $} $d z x $.");
        r.faulty("$v ^z $.", 7);
        r.faulty("${ ${ $v ^x $. $} $}", 7);
        r.reads("fz2 $f t z $. c $a t x z $.");
        r.due("frame(c, 1)", r.x.frame(6, 1), 1);
    }

    /** Mandatory: all active essential hypotheses, the active floating ones of variables in it or in these; their pairs. */
    private static void frames() {
        Runs r = new Runs("frames");
        r.reads("$c t $. $v x y z w $. fw $f t w $. fx $f t x $. fy $f t y $. fz $f t z $. ${ $d x y z w $. e $e t y $. a $a t z $. "
            + "b $p t z $= ? $. c $p t $= ? $. $}");
        int[] want = {2, 3, 4};
        for (int k = 0; k < 3; k++) {
            r.due("hypothesis(a, " + k + ")", r.x.hypothesis(5, k), want[k]);
            r.due("hypothesis(b, " + k + ")", r.x.hypothesis(6, k), want[k]);
        }
        r.due("frame(a, 0)", r.x.frame(5, 0), 3);
        r.due("frame(a, 1)", r.x.frame(5, 1), 1);
        r.due("apart(a, z, y)", r.x.apart(5, 3, 2), 1);
        r.due("apart(a, x, y)", r.x.apart(5, 1, 2), 0);
        r.due("frame(b, 1)", r.x.frame(6, 1), 1);
        r.due("frame(c, 0)", r.x.frame(7, 0), 2);
        r.due("frame(c, 1)", r.x.frame(7, 1), 0);
        r.due("count(9)", r.x.count(9), 2);
    }

    private static final String LOGIC = "$c |- wff ( -> ) k $. $v p q r $. fp $f wff p $. fq $f wff q $. fr $f wff r $. "
        + "wi $a wff ( p -> q ) $. e0 $a wff $. wk $a wff k $. any $a |- p $. ${ m1 $e |- p $. m2 $e |- ( p -> q ) $. mp $a |- q $. $} "
        + "pre $a |- ( p $. open $a |- ( $. post $a |- ( p -> q ) p $. ${ $d p q $. ap $a |- ( p -> q ) $. n1 $e |- p $. apm $a |- q $. $} ";

    private static void check(String marked, int fault) {
        Runs r = new Runs("steps");
        r.reads(LOGIC);
        r.faulty(marked, fault);
    }

    /** Faults 15 and 16: rows for floating and for essential hypotheses. */
    private static void matches() {
        check("l $p |- q $= fp fq fp any fp fq wi any mp $.^", 0);
        check("l $p |- q $= fp fq fp any fp fq wi any mp ^mp $.", 15);
        check("l $p |- q $= fq fp any ^mp $.", 15);
        check("l $p |- q $= fp any fq fp any ^mp $.", 15);
        check("l $p |- q $= fp any fq fp any fp fq wi any ^mp $.", 16);
        check("l $p |- q $= fp fq fp any fp any ^mp $.", 16);
        check("l $p |- q $= fp fq fp fp fq wi any ^mp $.", 16);
        check("l $p |- q $= fp fq fq any fp fq wi any ^mp $.", 16);
        check("l $p |- q $= fp fq fp any fq fq wi any ^mp $.", 16);
        check("l $p |- q $= fp fq fp any fp fp wi any ^mp $.", 16);
        check("l $p |- q $= fp fq fp any fp pre ^mp $.", 16);
        check("l $p |- q $= fp fq fp any open ^mp $.", 16);
        check("l $p |- q $= fp fq fp any e0 any ^mp $.", 16);
        check("l $p |- q $= fp fq fp any fp fq post ^mp $.", 16);
        check("l $p |- q $= fp fq wi fq fp fq wi any fp pre ^mp $.", 16);
        check("l $p |- q $= fp fq wi fq fp fq wi any fp fq wi pre ^mp $.", 16);
        check("l $p |- q $= fp fq wi fq fp fq wi any fp fq wi fq wi any mp $.^", 0);
        check("l $p |- q $= e0 fq e0 any e0 fq wi any mp $.^", 0);
        check("l $p |- q $= e0 fq fp any e0 fq wi any ^mp $.", 16);
        check("l $p |- $= e0 any $.^", 0);
        check("l $p wff $= e0 $.^", 0);
        check("l $p wff ( -> ) $= e0 e0 wi $.^", 0);
        check("l $p wff ( -> ( -> ) ) $= e0 e0 e0 wi wi $.^", 0);
    }

    /** Fault 17: what the variables of a pair become. */
    private static void meets() {
        check("l $p |- ( p -> q ) $= fp fq ^ap $.", 17);
        check("l $p |- ( -> q ) $= e0 fq ap $.^", 0);
        check("l $p |- ( p -> ) $= fp e0 ap $.^", 0);
        check("l $p |- ( k -> k ) $= wk wk ap $.^", 0);
        check("l $p |- ( k -> q ) $= wk fq ap $.^", 0);
        check("l $p |- ( p -> p ) $= fp fp ^ap $.", 17);
        check("$d p q $. l $p |- ( p -> p ) $= fp fp ^ap $.", 17);
        check("$d p q $. l $p |- ( q -> p ) $= fq fp ap $.^", 0);
        check("$d p q $. l $p |- ( q -> r ) $= fq fr ^ap $.", 17);
        check("l $p |- ( p -> q ) $= fp fq ^ap $. $d p q $.", 17);
        check("${ $d p q $. $} l $p |- ( p -> q ) $= fp fq ^ap $.", 17);
        check("${ $d p q $. l $p |- ( p -> q ) $= fp fq ap $. $} m $p |- ( p -> q ) $= fp fq ^l $.", 17);
        check("$d p q $. $d r q $. l $p |- ( ( p -> r ) -> q ) $= fp fr wi fq ap $.^", 0);
        check("$d p q $. $d r p $. l $p |- ( ( p -> r ) -> q ) $= fp fr wi fq ^ap $.", 17);
        check("$d p q r $. l $p |- ( ( p -> q ) -> ( r -> q ) ) $= fp fq wi fr fq wi ^ap $.", 17);
        check("$d p q $. $d p r $. l $p |- ( p -> ( q -> r ) ) $= fp fq fr wi ap $.^", 0);
        check("$d p q $. l $p |- ( p -> ( q -> r ) ) $= fp fq fr wi ^ap $.", 17);
    }

    /** For one step the first of 15, 16, 17, 5; then 18 before 19 at the end. */
    private static void whatComesFirst() {
        check("l $p |- q $= fp fp fq any ^apm $.", 16);
        check("l $p |- q $= fp fp fp any ^apm $.", 17);
        check("l $p |- q $= fp fp ^apm $.", 15);
        check("$d p q $. l $p |- q $= fp fq fp any apm $.^", 0);
        Runs r = new Runs("17 before 5");
        r.reads("$c t $. $v x y $. fx $f t x $. fy $f t y $. two $a t x x $. ${ $d x y $. lo $a t x x y $. $} lp $a t x x y $.");
        r.faulty("l $p t x $= ( two lo fy ) A" + Runs.times("B", 9) + "A^C $.", 17);
        r.faulty("l $p t x $= ( two lp fy ) A" + Runs.times("B", 9) + "D^C $.", 5);
        r.faulty("l $p t x $= ( two lo fy ) A" + Runs.times("B", 9) + "D^C $.", 17);
        r.faulty("$d x y $. l $p t x $= ( two lo fy ) A" + Runs.times("B", 9) + "D^C $.", 5);
        check("l $p |- p $= fp any fp any ^$.", 18);
        check("l $p |- p $= fp fp any ^$.", 18);
        check("l $p |- p $= fp any fq any ^$.", 18);
        check("l $p |- p $= ^$.", 18);
        check("l $p |- p $= $( none $) ^$.", 18);
        check("l $p |- p $= ( any ) ^$.", 18);
        check("l $p |- p $= fq any ^$.", 19);
        check("l $p |- p p $= fp any ^$.", 19);
        check("l $p |- $= fp any ^$.", 19);
        check("l $p |- p $= e0 any ^$.", 19);
        check("l $p wff p $= fp any ^$.", 19);
        check("l $p wff p $= fp $.^", 0);
    }

    /** A 1, T 20, UA 21, YT 120, UUA 121: mandatory hypotheses, then labels, then saved rows. */
    private static void numbers() {
        Runs r = new Runs("numbers");
        StringBuilder text = new StringBuilder("$c t $. ");
        StringBuilder labels = new StringBuilder();
        for (int n = 1; n <= 125; n++) {
            text.append("a").append(n).append(" $a t $. ");
            labels.append("a").append(n).append(' ');
        }
        r.reads(text.toString());
        String[] told = {"A", "B", "S", "T", "UA", "UT", "VA", "VT", "WA", "XA", "YA", "YS", "YT", "UUA", "UUE"};
        int[] due = {1, 2, 19, 20, 21, 40, 41, 60, 61, 81, 101, 119, 120, 121, 125};
        for (int k = 0; k < told.length; k++) {
            r.reads("p" + k + " $p t $= ( " + labels + ") " + told[k] + " $.");
            r.due("row of " + told[k], r.x.row(125 + k, 0), due[k] - 1);
        }
        r.faulty("l $p t $= ( " + labels + ") UU^F $.", 14);
        r.faulty("l $p t $= ( " + labels + ") A UU^F $.", 14);
        r.faulty("l $p t $= ( " + labels + ") A U U ^F $.", 14);
        r.faulty("l $p t $= ( " + labels + ") AZ UU^G $.", 14);
        r.faulty("l $p t $= ( " + labels + ") AZ UUF ^$.", 18);
        mandatoryFirst();
    }

    private static void mandatoryFirst() {
        Runs r = new Runs("mandatory hypotheses first");
        r.reads("$c t u $. $v x y z $. fx $f t x $. fy $f t y $. fz $f t z $. join $a t x y z $. ${ h1 $e u z $. h2 $e u x $. a $a u x z $. $}");
        r.reads("${ g1 $e u z $. g2 $e u x $. th $p u x z $= ( a ) ABCDE $. $}");
        int i = r.finds("th", 0);
        int[] rows = {0, 2, r.finds("g1", 0), r.finds("g2", 0), r.finds("a", 0)};
        r.due("rows(th)", r.x.rows(i), 5);
        for (int k = 0; k < rows.length; k++) {
            r.due("row(th, " + k + ")", r.x.row(i, k), rows[k]);
        }
        r.faulty("${ g3 $e u z $. q $p t z x $= ( ^g3 ) A $. $}", 14);
        r.faulty("q $p t z x $= ( fy ^fx ) A $.", 14);
        r.faulty("q $p t z x $= ( fy ^fy ) A $.", 14);
        r.faulty("q $p t z x $= ( fy join ^fy ) A $.", 14);
        r.reads("q $p t y $= ( fx ) A $.");
        r.faulty("s $p t y $= ( fx ) B ^$.", 19);
        r.faulty("s $p t y $= ( fx ) ^C $.", 14);
    }

    /** Z saves the row of an assertion's number, right behind it; its number puts it again. */
    private static void saved() {
        Runs r = new Runs("saved");
        r.reads("$c t ( ) $. $v x y $. fx $f t x $. fy $f t y $. p $a t ( x y ) $.");
        r.reads("a $p t ( ( x x ) ( x x ) ) $= ( p ) AABZCB $.");
        r.due("rows(a)", r.x.rows(3), 4);
        r.due("from(a, 3, 0)", r.x.from(3, 3, 0), 2);
        r.due("from(a, 3, 1)", r.x.from(3, 3, 1), 2);
        r.reads("b $p t ( ( x x ) ( ( x x ) ( x x ) ) ) $= ( p ) AABZCCBZB $.");
        r.due("rows(b)", r.x.rows(4), 5);
        r.reads("c $p t ( ( x x ) ( x x ) ) $= ( p ) AAB\nZ\t$( Z $) C B $.");
        r.due("count(8)", r.x.count(8), 5 + 7 + 5);
        r.faulty("d $p t x $= ( p ) A^Z $.", 14);
        r.faulty("d $p t x $= ( p ) AAB $( $) U ^Z $.", 14);
        r.faulty("d $p t x $= ( p ) AABZ^Z $.", 14);
        r.faulty("d $p t x $= ( p ) AABZC^Z $.", 14);
        r.faulty("d $p t x $= ( p ) AA^C $.", 14);
        r.faulty("d $p t x $= ( p ) AAB^C $.", 14);
        r.faulty("d $p t x $= ( p ) AAB?^Z $.", 14);
        r.faulty("d $p t x $= ( p ) AAB ? ^C $.", 14);
        r.faulty("d $p t x $= ( p ) AABZ ? ^D $.", 14);
        r.reads("e $p t x $= ( p ) AABZ ? C $.");
        r.due("kind(e)", r.x.kind(6), 4);
        r.due("count(8)", r.x.count(8), 17 + 4);
    }

    /** A theorem with '?' is open: its steps are not gone through, but are looked at. */
    private static void open() {
        Runs r = new Runs("open");
        r.reads(LOGIC);
        String[] good = {"?", "? ?", "mp ?", "? mp", "fp ? mp mp", "( ) ?", "( mp ) ?", "( mp ) B?", "( mp ) ?B", "( mp ) BZ?C", "( mp ) ??", "( mp ) B ? B"};
        int steps = 0;
        int[] more = {0, 0, 1, 1, 3, 0, 0, 1, 1, 2, 0, 2};
        for (int n = 0; n < good.length; n++) {
            int i = r.x.count(0);
            r.reads("o" + n + " $p |- p $= " + good[n] + " $.");
            steps += more[n];
            r.due("kind(o" + n + ")", r.x.kind(i), 4);
            r.due("count(8) with o" + n, r.x.count(8), steps);
            r.due("count(7) with o" + n, r.x.count(7), n + 1);
            r.due("count(6) with o" + n, r.x.count(6), n + 1);
        }
        r.faulty("l $p |- p $= ? ^nothing $.", 13);
        r.faulty("l $p |- p $= ? ^m1 $.", 13);
        r.faulty("l $p |- p $= ? ^?? $.", 13);
        r.faulty("l $p |- p $= ? ^( ) ? $.", 13);
        r.faulty("l $p |- p $= ( ^? ) A $.", 13);
        r.faulty("l $p |- p $= ( mp ^? ) A $.", 13);
        r.faulty("l $p |- p $= ( mp ) ?^C $.", 14);
        r.faulty("l $p |- p $= ( mp ) ?^a $.", 14);
        r.faulty("l $p |- p $= ( mp ) ?U ^$.", 14);
        r.faulty("l $p |- p $= ( mp ) ?U^? $.", 14);
        r.faulty("l $p |- p $= ( mp ) ?Y ^? $.", 14);
    }

    public static void main(String[] args) {
        everyCharacter();
        everyState();
        comments();
        scopes();
        frames();
        matches();
        meets();
        whatComesFirst();
        numbers();
        saved();
        open();
        Runs.finish();
    }
}
