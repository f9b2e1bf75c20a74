/** Promises 4 and 5: the faults of texts, each at its place, and what comes before what. */
public final class FaultsTest {
    private static final String BASE = "$c |- wff ( ) -> set $. $v p q r x $. fp $f wff p $. fq $f wff q $. fr $f wff r $."
        + " wi $a wff ( p -> q ) $. ${ m1 $e |- p $. m2 $e |- ( p -> q ) $. mp $a |- q $. $}"
        + " a1 $a |- ( p -> ( q -> p ) ) $. ${ $d p q $. ap $a |- ( p -> q ) $. $} zero $a |- p $. ";

    private static Runs withBase() {
        Runs r = new Runs("faults");
        r.reads(BASE);
        return r;
    }

    private static void check(String marked, int fault) {
        withBase().faulty(marked, fault);
    }

    private static void characters() {
        check("$c a $. ^\u0001", 1);
        check("$c a^\u0007b $.", 1);
        check("$( b ^\u007f $)", 1);
        check("^\u00ff", 1);
        check("^\u000b", 1);
        check("^a$\u0000", 3);
        check("$c y $. ^$y\u0001", 3);
        check("$c y\t$.\n$c z\f$.\r$c y2 $.^", 0);
    }

    private static void comments() {
        check("$( a ^$( b $)", 2);
        check("$( a ^x$)y $)", 2);
        check("$( a ^$)) $)", 2);
        check("$( a $x $ $c $) $c a $.^", 0);
        check("$( a ^", 2);
        check("$c a $( a^", 2);
        check("^$) $c", 2);
        check("l $a ^$) ", 2);
        check("$( $) $( ^$)$ $)", 2);
        check("$( a$ $x) $) ^$)", 2);
    }

    private static void tokens() {
        check("^$x", 3);
        check("^$", 3);
        check("^$$", 3);
        check("^$c$", 3);
        check("^a$b", 3);
        check("^$(x $)", 3);
        check("^x$)", 3);
        check("$c ^a$. ", 3);
        check("l $p |- p $= ^a$ $.", 3);
        check("l $p |- p $= ( zero ) ^Aa$B", 3);
    }

    private static void order() {
        check("^$=", 4);
        check("^$.", 4);
        check("^$f", 4);
        check("^$}", 4);
        check("${ $} ^$}", 4);
        check("${ ^", 4);
        check("l^", 4);
        check("l ^l", 4);
        check("l ^$c", 4);
        check("l ^${", 4);
        check("l $f ^$.", 4);
        check("l $f wff ^$.", 4);
        check("l $f wff x ^p $.", 4);
        check("l $f wff x ^$=", 4);
        check("l $e ^$.", 4);
        check("l $a ^$.", 4);
        check("l $a |- ^$= $.", 4);
        check("l $p |- ^$. ", 4);
        check("l $p ^$= $.", 4);
        check("l $p |- p $= ^$= ", 4);
        check("l $p |- p $= ( zero ^$. ", 4);
        check("l $p |- p $= ( zero ^", 4);
        check("l $p |- p $= ( zero ) ^", 4);
        check("l $p |- p $= ^", 4);
        check("l $p |- p $= ^${ ", 4);
        check("$c ^$. ", 4);
        check("$v ^$. ", 4);
        check("$d ^$. ", 4);
        check("$d p ^$. ", 4);
        check("$c z ^$c ", 4);
        check("$c z ^${ ", 4);
        check("$c z^", 4);
    }

    private static void labels() {
        check("^a+b $a |- p $.", 6);
        check("^( $a |- p $.", 6);
        check("^? $a |- p $.", 6);
        check("A.b-9_ $a |- p $.^", 0);
        check("^zero $a |- p $.", 7);
        check("^m1 $a |- p $.", 7);
        check("^wff $a |- p $.", 7);
        check("^x $a |- p $.", 7);
        check("l $a |- p $. ^l $a |- p $.", 7);
    }

    private static void declarations() {
        check("$c ^zero $.", 7);
        check("$v ^zero $.", 7);
        check("$c ^m1 $.", 7);
        check("$c ^wff $.", 7);
        check("$c ^p $.", 7);
        check("$v ^wff $.", 7);
        check("$v ^p $.", 7);
        check("$v y ^y $.", 7);
        check("$c y ^y $.", 7);
        check("${ $v y $. $} $c ^y $.", 7);
        check("${ $v y $. $} $v y $.^", 0);
        check("${ $v ^p $. $}", 7);
        check("${ ^$c y $. $}", 8);
        check("${ l ^$c y $. $}", 4);
    }

    private static void apart() {
        check("$d p q ^p $.", 7);
        check("$d p ^p $.", 7);
        check("$d p ^y $.", 9);
        check("$d p ^wff $.", 10);
        check("$d ^zero p $.", 9);
        check("${ $v y $. $} $d p ^y $.", 9);
        check("$d p x $. $d x p $.^", 0);
    }

    private static void symbols() {
        check("l $a ^nothing $.", 9);
        check("l $a |- ^nothing $.", 9);
        check("l $a |- ^zero $.", 9);
        check("${ $v y $. $} l $a |- ^y $.", 9);
        check("${ $v y $. $} l $a ^y $.", 9);
        check("l $a ^p $.", 10);
        check("l $e ^x p $.", 10);
        check("l $f ^p x $.", 10);
        check("l $f wff ^wff $.", 10);
        check("l $f wff ^y $.", 9);
        check("l $f wff ^p $.", 7);
        check("l $a |- ^x $.", 11);
        check("l $e |- p ^x $.", 11);
        check("l $p |- ^x $= ? $.", 11);
        check("${ l $f wff x $. $} l2 $f set ^x $.", 12);
        check("${ l $f wff x $. $} l2 $f wff x $.^", 0);
        check("${ l $f wff x $. l3 $f set ^x $. $}", 7);
        check("${ $v y $. l $f wff y $. $} ${ $v y $. l2 $f set ^y $. $}", 12);
    }

    private static void plainProofs() {
        check("l $p |- p $= ^nothing $.", 13);
        check("l $p |- p $= ^a+b $.", 13);
        check("l $p |- p $= ^m1 $.", 13);
        check("l $p |- p $= ^l $.", 13);
        check("l $p |- p $= fp ^( $.", 13);
        check("l $p |- p $= fp ^) $.", 13);
        check("l $p |- p $= ^wff $.", 13);
        check("l $p |- p $= " + "^" + Runs.times("a", 61) + " $.", 13);
        check("l $p |- p $= fp zero $. ^$.", 4);
        check("l $p |- p $= fp zero $.^", 0);
        check("l $p |- p $= ? nothing $.".replace("nothing", "^nothing"), 13);
        check("l $p |- q $= ? fp $.^", 0);
        check("l $p |- q $= fp ? fp mp $.^", 0);
    }

    private static void packedProofs() {
        check("l $p |- p $= ( ^? ) A $.", 13);
        check("l $p |- p $= ( ^nothing ) A $.", 13);
        check("l $p |- p $= ( ^( ) A $.", 13);
        check("l $p |- p $= ( ^fp ) A $.", 14);
        check("l $p |- p $= ( zero ^zero ) AB $.", 14);
        check("l $p |- p $= ( fq zero ^fq ) AB $.", 14);
        check("l $p |- p $= ( zero ) A^a $.", 14);
        check("l $p |- p $= ( zero ) A^( $.", 14);
        check("l $p |- p $= ( zero ) A^) $.", 14);
        check("l $p |- p $= ( zero ) A^C $.", 14);
        check("l $p |- p $= ( zero ) U^A $.", 14);
        check("l $p |- p $= ( zero ) U ^A $.", 14);
        check("l $p |- p $= ( zero ) ABU ^$.", 14);
        check("l $p |- p $= ( zero ) AB U $( c $) ^$.", 14);
        check("l $p |- p $= ( zero ) ABZ^Z $.", 14);
        check("l $p |- p $= ( zero ) A^Z $.", 14);
        check("l $p |- p $= ( zero ) ^Z $.", 14);
        check("l $p |- p $= ( zero fq ) C^Z $.", 14);
        check("l $p |- p $= ( zero ) ABZC^Z $.", 14);
        check("l $p |- p $= ( zero ) ABU^Z $.", 14);
        check("l $p |- p $= ( zero ) AB?^Z $.", 14);
        check("l $p |- p $= ( zero ) U^? $.", 14);
        check("l $p |- p $= ( zero ) AB ^$)", 2);
        check("l $p |- p $= ( zero ) A $( Z ) $) B $.^", 0);
        check("l $p |- p $= ( zero ) ABZ? $.^", 0);
        check("l $p |- p $= ( zero ) ABZ ? C $.^", 0);
        check("l $p |- p $= ( zero ) AB ? ^C $.", 14);
        check("l $p |- p $= ( ) ? $.^", 0);
    }

    private static void steps() {
        check("l $p |- p $= ^$.", 18);
        check("l $p |- p $= ( ) ^$.", 18);
        check("l $p |- p $= ( zero ) ^$.", 18);
        check("l $p |- p $= ^zero $.", 15);
        check("l $p |- p $= fp ^wi $.", 15);
        check("l $p |- p $= ( zero ) ^B $.", 15);
        check("l $p |- p $= fp zero ^zero $.", 16);
        check("l $p |- q $= fp fq fp zero fq zero ^mp $.", 16);
        check("l $p |- ( p -> q ) $= fp fq ^ap $.", 17);
        check("l $p |- ( p -> p ) $= fp fp ^ap $.", 17);
        check("l $p |- ( ( p -> r ) -> q ) $= fp fr wi fq ^ap $.", 17);
        check("$d p q $. l $p |- ( ( p -> r ) -> q ) $= fp fr wi fq ^ap $.", 17);
        check("$d p q r $. l $p |- ( ( p -> r ) -> q ) $= fp fr wi fq ap $.^", 0);
        check("${ $d p q $. $} l $p |- ( p -> q ) $= fp fq ^ap $.", 17);
        check("${ $d p q $. l $p |- ( p -> q ) $= fp fq ap $. $}^", 0);
        check("l $p |- p $= fp zero fp zero ^$.", 18);
        check("l $p |- p $= fq zero ^$.", 19);
        check("l $p |- p $= fp ^$.", 19);
        check("l $p |- p $= ( zero fq ) ACB ^$.", 18);
        check("l $p |- ( p -> q ) $= ( wi zero ) ABCD^CD $.", 15);
        check("l $p |- ( p -> q ) $= ( wi zero ) ABC D ^DD $.", 16);
        check("l $p |- ( p -> q ) $= ( wi zero ) ABC U U A $( 1 $) D $.".replace("U U A", "U U ^A"), 14);
        check("l $p |- p $= fp ^zero zero nothing $.".replace("^", "").replace("nothing", "^nothing"), 13);
        check("l $p |- p $= ^mp $.", 15);
        Runs r = new Runs("no rows are needed");
        r.reads("$c |- t $. $v x $. fx $f t x $. e $a t $. ex $a |- x x $. none $a |- $.");
        r.reads("th $p |- $= e ex $.");
        r.reads("tn $p |- $= none $.");
        r.due("rows(4)", r.x.rows(4), 2);
    }

    private static void nothingIsKept() {
        Runs r = withBase();
        r.due("count(3)", r.x.count(3), 3);
        r.faulty("$c new $. $v y $. fy $f set y $. ${ $d p q $. h $e |- p $. t $a |- p y $. u $p |- p $= fp zero $. ^$.", 4);
        r.due("find new", r.finds("new", 1), -1);
        r.due("find fy", r.finds("fy", 0), -1);
        r.reads("$c new $. $v y $. fy $f wff y $.");
        r.faulty("l $p |- ( p -> q ) $= fp fq ^ap $.", 17);
        r.faulty("l $a |- ^h $.", 9);
        r.reads("l $a |- p $.");
        r.due("frame(l, 0)", r.x.frame(r.finds("l", 0), 0), 1);
        r.faulty("$v ^y $.", 7);
        r.faulty("f2 $f set ^y", 7);
        r.faulty("f2 $f set x $. ${ $v x2 $. f3 $f set x2 $. $} ^$}", 4);
        r.reads("f2 $f wff x $.");
        r = new Runs("types that are kept, and not");
        r.reads("$c wff set $. $v x y $. ${ fx $f wff x $. $}");
        r.faulty("z1 $a wff $. z2 $a wff $. fy $f set y $. ${ f2 $f wff x $. $} ^$.", 4);
        r.faulty("f2 $f set ^x $.", 12);
        r.faulty("fy $f wff y $. $v w $. $d x y $. ${ $v z $. ${ ^$.", 4);
        r.faulty("ax $a wff $. ay $a wff $. ^$.", 4);
        r.faulty("l $p wff $= ^l $.", 13);
        r.reads("fy $f wff y $. ${ f2 $f wff x $. $} ${ f3 $f wff x $. $}");
        r.reads("${ f4 $f wff x $. $v w $. fw $f wff w $. a $a wff x y $. $}");
        r.due("frame(a, 1)", r.x.frame(6, 1), 0);
        takenBackOften();
    }

    /** What faulty texts used is free again, however often. */
    private static void takenBackOften() {
        Runs r = new Runs("taken back often");
        StringBuilder b = new StringBuilder("$c t $. $v x $. fx $f t x $. ax $a t $. ${ h $e t $. on $a t $. $} ");
        for (int n = 0; n < 59; n++) {
            b.append("h").append(n).append(" $e t x $. ");
        }
        r.reads(b.toString());
        for (int n = 0; n < 1600; n++) {
            r.faulty("l $a t $. ^$.", 4);
        }
        String long1 = "th $p t $= ( ax on ) " + Model.letters(61) + Runs.times(Model.letters(62), 6000) + " $. ";
        for (int n = 0; n < 5; n++) {
            r.faulty(long1 + "^$.", 4);
        }
        r.reads(long1);
        r.due("rows(th)", r.x.rows(63), 6001);
        for (int n = 0; n < 3; n++) {
            r.reads(Runs.times("${ $v y $. $} ", 800));
        }
    }

    public static void main(String[] args) {
        characters();
        comments();
        tokens();
        order();
        labels();
        declarations();
        apart();
        symbols();
        plainProofs();
        packedProofs();
        steps();
        nothingIsKept();
        Runs.finish();
    }
}
