/** Fault 5 and the answer FULL: each limit just reached, and one more. */
public final class LimitsTest {
    private static String numbered(String part, int from, int to) {
        StringBuilder b = new StringBuilder();
        for (int n = from; n < to; n++) {
            b.append(part.replace("#", Integer.toString(n))).append(' ');
        }
        return b.toString();
    }

    private static String wide(int n) {
        String s = Integer.toString(n);
        return Runs.times("n", 60 - s.length()) + s;
    }

    private static void tape() {
        Runs r = new Runs("tape");
        for (int n = 1; n <= 3000; n++) {
            r.due("feed", r.x.feed(0x20202020, 0x20202020, 0x20202020, 0x20202020, 0x20202020), 20 * n);
        }
        r.due("feed", r.x.feed(1, 1, 1, 1, 1), -2);
        r.due("end(3) after FULL", r.x.end(3), -1);
        r.due("read()", r.x.read(), 0);
        for (int n = 1; n <= 3000; n++) {
            r.x.feed(0x20202020, 0x20202020, 0x20202020, 0x20202020, 0x20202020);
        }
        r.due("end(19)", r.x.end(19), 59999);
        r.due("feed", r.x.feed(1, 1, 1, 1, 1), -2);
        r.due("read()", r.x.read(), 0);
        r.due("feed", r.x.feed(1, 1, 1, 1, 1), 20);
    }

    private static void names() {
        Runs r = new Runs("names");
        String sixty = Runs.times("a", 60);
        r.faulty("$c ^" + sixty + "a $.", 5);
        r.faulty("$v ^" + sixty + "a $.", 5);
        r.faulty("^" + sixty + "a $a", 5);
        r.faulty("^" + sixty + "+ $a", 5);
        r.faulty("$c a $. l $a a $. q $p a $= ^" + sixty + "a $.", 13);
        r.faulty("$c a $. l $a ^" + sixty + "a $.", 9);
        r.faulty("$c " + sixty + " $. b" + sixty.substring(1) + " $a " + sixty + " ^" + sixty + "a $.", 9);
        StringBuilder b = new StringBuilder("$c ");
        for (int n = 0; n < 499; n++) {
            b.append(wide(n)).append(' ');
        }
        r.reads(b.append("$.").toString());
        r.faulty("$c " + wide(499) + " ^b $.", 5);
        r.faulty("$c " + wide(499) + " $. ^l $a", 5);
        r.faulty("$c " + wide(499) + " $. ^+ $a", 5);
        r.faulty("$c " + wide(499) + " $. $c ^" + wide(499) + " $.", 7);
        r.reads("${ $v " + wide(499) + " $. $}");
        r.reads("$v " + wide(499) + " $.");
        r.faulty("$v ^" + wide(499) + " $.", 7);
        r.faulty("$v ^b $.", 5);
    }

    private static void symbols() {
        Runs r = new Runs("symbols");
        r.reads("$c " + numbered("c#", 0, 999) + "$. l $a c0 $.");
        r.faulty("$c a ^b $.", 5);
        r.faulty("$c a ^l $.", 5);
        r.faulty("$c a $. $v ^b $.", 5);
        r.reads("${ $v a $. $} ${ $v a $. $}");
        r.faulty("$c ^c0 $.", 7);
        r.faulty("$v ^c0 $.", 7);
        r.due("count(1)", r.x.count(1), 1000);
        r.due("variable(999)", r.x.variable(999), 1);
        r.due("variable(1000)", r.x.variable(1000), -1);
        r = new Runs("many variables");
        r.reads("$c t $. $v " + numbered("v#", 0, 999) + "$. $d v10 v900 v998 v63 $. $d v11 v999".replace("v999", "v935 $."));
        r.reads(numbered("f# $f t v# $.", 0, 12) + numbered("f# $f t v# $.", 62, 65) + numbered("f# $f t v# $.", 899, 902)
            + "f935 $f t v935 $. " + numbered("f# $f t v# $.", 996, 999) + "${ $d v0 v1 $. ax $a t v0 v1 $. $}");
        String[] met = {"v10 v900", "v998 v900", "v63 v900", "v10 v998", "v935 v11", "v63 v10"};
        for (String p : met) {
            String[] two = p.split(" ");
            r.reads("th" + p.replace(' ', '.') + " $p t " + p + " $= f" + two[0].substring(1) + " f" + two[1].substring(1) + " ax $.");
        }
        String[] free = {"v10 v899", "v9 v900", "v11 v900", "v10 v10", "v64 v900", "v62 v900", "v11 v0", "v997 v900", "v900 v9", "v935 v10", "v1 v998"};
        for (String p : free) {
            String[] two = p.split(" ");
            r.faulty("th $p t " + p + " $= f" + two[0].substring(1) + " f" + two[1].substring(1) + " ^ax $.", 17);
        }
    }

    private static void statements() {
        Runs r = new Runs("statements");
        r.reads("$c a " + numbered("c#", 0, 999) + "$. " + numbered("l# $a a $.", 0, 1498));
        r.reads("m $p a $= l1490 $. ${ n $e a $. $}");
        r.due("rests(1498, 1490)", r.x.rests(1498, 1490), 1);
        r.due("frame(1498, 2)", r.x.frame(1498, 2), 1);
        r.faulty("^l1500 $a a $.", 5);
        r.faulty("^l0 $a a $.", 5);
        r.faulty("^+ $a a $.", 5);
        r.due("count(0)", r.x.count(0), 1500);
        r.due("kind(1499)", r.x.kind(1499), 1);
        r.due("kind(1500)", r.x.kind(1500), -1);
        r.due("check()", r.x.check(), 1);
    }

    /** The last statement that there can be is a theorem that rests on the one before. */
    private static void lastStatement() {
        Runs r = new Runs("the last statement");
        r.reads("$c a $. ${ h $e a $. on $a a $. $} " + numbered("l# $a a $.", 2, 1498));
        r.reads("m $p a $= l1400 on $. n $p a $= m on $.");
        r.due("kind(1499)", r.x.kind(1499), 3);
        r.due("rows(1499)", r.x.rows(1499), 2);
        r.due("rests(1499, 1498)", r.x.rests(1499, 1498), 1);
        r.due("rests(1499, 1499)", r.x.rests(1499, 1499), 0);
        r.due("rests(1499, 1400)", r.x.rests(1499, 1400), 1);
        r.due("frame(1499, 2)", r.x.frame(1499, 2), 3);
        r.due("frame(1498, 2)", r.x.frame(1498, 2), 2);
        r.prints(4, 1499, 0, "( m on ) AB");
        r.prints(2, 1499, 0, "a");
        r.due("trees(1499)", r.x.trees(1499), 0);
        r.due("check()", r.x.check(), 1);
        r.faulty("^o $p a $= ? $.", 5);
        r.faulty("$c b $. ^o $a b $.", 5);
        r.faulty("^+ $a a $.", 5);
        r.faulty("^m $a a $.", 5);
        r.reads("$c b $. $v x $. ${ $} $( o $a b $. $)");
    }

    private static void lengths() {
        Runs r = new Runs("lengths");
        r.faulty("$c a $. l $a " + Runs.times("a ", 300) + "^a $.", 5);
        r.faulty("$c a $. l $a " + Runs.times("a ", 300) + "^b $.", 5);
        r.reads("$c a t $. $v x y $. l $a " + Runs.times("a ", 300) + "$.");
        r.due("length(0)", r.x.length(0), 300);
        for (int n = 0; n < 98; n++) {
            r.reads("k" + n + " $a " + Runs.times("a ", 300) + "$.");
        }
        r.reads("m $a " + Runs.times("a ", 298) + "$.");
        r.faulty("f $f t x $. o $a ^a $.", 5);
        r.faulty("o $a a a ^a $.", 5);
        r.faulty("o $a a a ^b $.", 5);
        r.faulty("o $a a $. f $f t ^x $.", 5);
        r.reads("o $p a a $= ? $.");
        r.faulty("p $a ^a", 5);
        r.faulty("p $a ^b", 5);
        r.faulty("p $a ^$.", 4);
    }

    private static void firstSymbols() {
        Runs r = new Runs("first symbols");
        r.reads("$c " + numbered("c#", 0, 120) + "$. $v x $. " + numbered("l# $a c# $.", 0, 99));
        r.reads("f $f c0 x $.");
        r.faulty("m $a c99 $. n $a ^c100 $.", 5);
        r.faulty("m $a c99 $. n $e ^c100 $.", 5);
        r.faulty("m $a c99 $. n $a ^x $.", 10);
        r.faulty("m $a c99 $. n $a ^y $.", 9);
        r.reads("m $a c99 $.");
        r.reads("m2 $a c99 c110 $.");
        r.faulty("n $f ^c100 x $.", 5);
    }

    private static void scopes() {
        Runs r = new Runs("scopes");
        r.faulty(Runs.times("${ ", 50) + "^${ ", 5);
        r.faulty(Runs.times("${ ", 50) + "l ^${ ", 4);
        r.reads(Runs.times("${ ", 50) + Runs.times("$} ", 50));
        r.reads(Runs.times("${ ", 49) + "${ $} ${ $} " + Runs.times("$} ", 49));
    }

    private static void activePairs() {
        Runs r = new Runs("active pairs");
        String most = "$d " + numbered("v#", 0, 45) + "$. $d v45 v0 $. $d v45 v1 $. $d v45 v2 $. $d v45 v3 $. $d v45 v4 $. "
            + "$d v45 v5 $. $d v45 v6 $. $d v45 v7 $. $d v45 v8 $. $d v45 v9 $. ";
        r.reads("$c t $. $v " + numbered("v#", 0, 60) + "$.");
        r.faulty(most + "$d v45 ^v10 $.", 5);
        r.faulty(most + "$d v45 v9 v8 ^v10 $.", 5);
        r.faulty(most + "$d v45 ^v45 $.", 7);
        r.faulty(most + "$d v45 ^x $.", 9);
        r.faulty(most + "$d v45 ^t $.", 10);
        r.reads("${ " + most + "$d v45 v3 $. $}");
        r.reads("${ ${ " + most + "$} $d v45 v19 $. $}");
        r.reads("${ " + most + "$} $d v45 v20 $.");
        r.faulty("${ " + most.replace("$d v45 v9 $. ", "$d v45 ^v9 $. ") + "$}", 5);
    }

    private static void frames() {
        Runs r = new Runs("frames");
        r.reads("$c t $. $v " + numbered("v#", 0, 61) + "$. " + numbered("f# $f t v# $.", 0, 61));
        r.faulty("a $a t " + numbered("v#", 0, 61) + "^$.", 5);
        r.faulty("a $p t " + numbered("v#", 0, 61) + "^$= $.", 5);
        r.reads("a $a t " + numbered("v#", 0, 60) + "$.");
        r.due("frame(61, 0)", r.x.frame(61, 0), 60);
        r.faulty("${ e $e t $. b $a t " + numbered("v#", 0, 60) + "^$. $}", 5);
        r.reads("${ e $e t v3 $. b $a t " + numbered("v#", 0, 59) + "$. $}");
        r.reads("${ " + numbered("h# $e t $.", 0, 60) + "c $a t $. $}");
        r.faulty("${ " + numbered("i# $e t $.", 0, 61) + "d $a t ^$. $}", 5);
        Runs p = new Runs("pairs of frames");
        p.reads("$c t $. $v " + numbered("v#", 0, 45) + "$. " + numbered("f# $f t v# $.", 0, 45) + "$d " + numbered("v#", 0, 45) + "$. ");
        String all = " t " + numbered("v#", 0, 45);
        for (int n = 0; n < 20; n++) {
            p.reads("a" + n + " $a" + all + "$.");
        }
        p.due("count(9)", p.x.count(9), 19800);
        p.reads("b $a t " + numbered("v#", 0, 20) + "$.");
        p.reads("c $a t " + numbered("v#", 0, 5) + "$.");
        p.due("count(9)", p.x.count(9), 20000);
        p.faulty("d $a t v3 v4 ^$.", 5);
        p.faulty("d $p t v3 v4 ^$= $.", 5);
        p.reads("d $a t v3 v3 $.");
        p.due("apart(64, v3, v4)", p.x.apart(64, 4, 5), 1);
        p.due("apart(64, v44, v0)", p.x.apart(64, 45, 1), 1);
    }

    private static void steps() {
        Runs r = new Runs("steps");
        r.reads("$c t u $. ax $a t $. ay $a u $.");
        r.faulty("l $p t $= ( ax ) " + Runs.times("A", 20000) + "^A", 5);
        r.faulty("l $p t $= ( ax ) " + Runs.times("A", 20000) + "^E", 5);
        r.faulty("l $p t $= ( ax ) " + Runs.times("A", 20000) + "U^B", 5);
        r.faulty("l $p t $= ( ax ) " + Runs.times("A", 20000) + "U^?", 14);
        r.faulty("l $p t $= ( ax ) " + Runs.times("A", 200) + "^A" + Runs.times("A", 19799) + " $.", 5);
        r.reads("l $p t $= ( ax ) " + Runs.times("A", 19998) + "? $.");
        r.reads("m $p t $= ax $.");
        r.faulty("n $p t $= ax ^ax $.", 5);
        r.faulty("n $p t $= ax ^nothing $.", 5);
        r.faulty("n $p t $= ax ^a+b $.", 13);
        r.faulty("n $p t $= ax ? ? $. ^$.", 4);
        r.reads("n $p t $= ax ? $.");
        r.due("count(8)", r.x.count(8), 20000);
        r.faulty("o $p t $= ( ) ? ^A", 5);
        r.reads("o $p t $= ? $.");
        r.due("rows(m)", r.x.rows(3), 1);
        r.due("check()", r.x.check(), 1);
    }

    /** A proof of 20000 rows, each but the first from the one before, is told and checked as any other. */
    private static void allSteps() {
        Runs r = new Runs("all steps in one proof");
        r.reads("$c t $. ax $a t $. ${ h $e t $. on $a t $. $}");
        r.reads("th $p t $= ( ax on ) A" + Runs.times("B", 19999) + " $.");
        r.due("count(8)", r.x.count(8), 20000);
        r.due("rows(th)", r.x.rows(3), 20000);
        r.due("row(th, 19999)", r.x.row(3, 19999), 2);
        r.due("from(th, 19999, 0)", r.x.from(3, 19999, 0), 19998);
        r.due("from(th, 0, 0)", r.x.from(3, 0, 0), -1);
        r.due("row(th, 20000)", r.x.row(3, 20000), -1);
        r.due("size(th)", r.x.size(3), 20000);
        r.prints(3, 3, 19999, "t");
        r.prints(4, 3, 0, "( ax on ) A" + Runs.times("B", 19999));
        r.printsNot(5, 3, 0, -2);
        r.due("check()", r.x.check(), 1);
        r.faulty("m $p t $= ^ax $.", 5);
        r.reads("m $p t $= ? $.");
        Runs q = new Runs("all steps in plain proofs");
        q.reads("$c t $. ax $a t $. ${ h $e t $. k $e t $. two $a t $. $} o $p t $= ( ax ) " + Runs.times("A", 19993) + "? $.");
        q.reads("th $p t $= ax ax ax two ax two two $.");
        q.due("count(8)", q.x.count(8), 20000);
        q.prints(4, 5, 0, "( ax two ) AAABABB");
        q.prints(5, 5, 0, "ax ax ax two ax two two");
        q.due("check()", q.x.check(), 1);
    }

    private static void packedProofs() {
        Runs r = new Runs("packed proofs");
        r.reads("$c t $. $v x $. fx $f t x $. " + numbered("l# $a t $.", 0, 302));
        r.faulty("a $p t $= ( " + numbered("l#", 0, 300) + "^l300 )", 5);
        r.faulty("a $p t $= ( " + numbered("l#", 0, 300) + "^l0 )", 5);
        r.faulty("a $p t $= ( " + numbered("l#", 0, 300) + "^nothing )", 5);
        r.faulty("a $p t $= ( " + numbered("l#", 0, 300) + "^? )", 13);
        r.reads("a $p t $= ( " + numbered("l#", 0, 300) + ") " + Model.letters(300) + " $.");
        r.due("row", r.x.row(303, 0), 300);
        r.faulty("b $p t $= ( l0 ) " + Runs.times("AZ", 300) + "A^Z", 5);
        r.faulty("b $p t $= ( l0 ) " + Runs.times("AZ", 300) + "^Z", 14);
        r.reads("b $p t $= ( l0 ) " + Runs.times("AZ", 300) + "? " + Model.letters(301) + " $.");
        r.faulty("c $p t $= ( l0 ) " + Runs.times("AZ", 200) + "^A $.", 5);
        String million = Model.letters(1000000);
        String more = Model.letters(1000001);
        String marked = million.substring(0, million.length() - 1) + "^" + million.substring(million.length() - 1);
        r.faulty("c $p t $= ( l0 ) A " + marked + " $.", 14);
        marked = more.substring(0, more.length() - 1) + "^" + more.substring(more.length() - 1);
        r.faulty("c $p t $= ( l0 ) A " + marked + " $.", 5);
        /* Eight letters Y stand for 488280, nine for 2441405; nine letters U for 488281, ten for 2441406. */
        r.faulty("c $p t $= ( l0 ) A " + Runs.times("Y", 8) + "^Y $.", 5);
        r.faulty("c $p t $= ( l0 ) A " + Runs.times("Y", 8) + "^A $.", 5);
        r.faulty("c $p t $= ( l0 ) A " + Runs.times("U", 9) + "^A $.", 5);
        r.faulty("c $p t $= ( l0 ) A " + Runs.times("U", 9) + "^U $.", 5);
        r.faulty("c $p t $= ( l0 ) A " + Runs.times("Y", 8) + "^? $.", 14);
        r.faulty("c $p t $= ( l0 ) A " + before(1000000) + "^? $.", 14);
        String above = before(1000001);
        r.faulty("c $p t $= ( l0 ) A " + above.substring(0, above.length() - 1) + "^" + above.substring(above.length() - 1) + "? $.", 5);
    }

    /** The letters that stand for a number before the last letter. */
    private static String before(int n) {
        String letters = Model.letters(20 * n + 1);
        return letters.substring(0, letters.length() - 1);
    }

    private static void piles() {
        Runs r = new Runs("piles");
        r.reads("$c t $. $v x y $. fx $f t x $. ax $a t $. two $a t x x $. " + "${ ex $e t x $. ey $e t $. drop $a t x $. $} ");
        r.faulty("l $p t $= ( ax ) " + Runs.times("A", 200) + "^A $.", 5);
        r.faulty("l $p t $= ( ax ) " + Runs.times("A", 200) + " ^$.", 18);
        r.faulty("l $p t $= ( ax ) " + Runs.times("A", 200) + "^AZ $.", 5);
        r.faulty("l $p t $= ( ax ) " + Runs.times("A", 199) + "AZ ^$.", 18);
        r.faulty("l $p t $= ( ax ) " + Runs.times("A", 199) + "AZ^B $.", 5);
        r.faulty("l $p t $= ax " + Runs.times("ax ", 199) + "^ax $.", 5);
        r.faulty("l $p t $= ( ax ) AZ" + Runs.times("B", 199) + "^B $.", 5);
        r.faulty("l $p t $= ( ax ) AZ" + Runs.times("B", 199) + " ^$.", 18);
        /* The row of 2 ^ 9 symbols and its type; the next would have 1025. */
        r.faulty("l $p t x $= ( two ) ABBBBBBBBB^B $.", 5);
        r.faulty("l $p t x $= ( two ) ABBBBBBBBB ^$.", 19);
        /* A thousand symbols: 999 of 111 nine times. */
        Runs q = new Runs("thousand");
        q.reads("$c t $. $v x $. fx $f t x $. x3 $a t x x x $. x37 $a t " + Runs.times("x ", 37) + "$. x2 $a t x x $. x1 $a t x x x x x $.");
        q.faulty("l $p t x $= ( x3 x37 x2 ) ABBBC ^$.", 19);
        q.faulty("l $p t x $= ( x3 x37 x1 ) ABBBC^B $.", 5);
        q.faulty("l $p t x $= ( x2 x1 ) ABBBCC^C $.", 5);
        manyRows();
        Runs p = new Runs("forty thousand");
        p.reads("$c t $. $v x $. fx $f t x $. x3 $a t x x x $. x37 $a t " + Runs.times("x ", 37) + "$. none $a t $.");
        /* Each row has a thousand symbols. */
        String row = "( x3 x37 none ) ABBBCZ";
        p.faulty("l $p t x $= " + row + Runs.times("E", 38) + " ^$.", 18);
        p.faulty("l $p t x $= " + row + Runs.times("E", 38) + "^E $.", 5);
        p.faulty("l $p t x $= " + row + Runs.times("E", 38) + "^A $.", 5);
        p.faulty("l $p t x $= " + row + Runs.times("E", 37) + Runs.times("D", 100) + "^E $.", 5);
        p.faulty("l $p t x $= ( x3 x37 none ) " + Runs.times("ABBBC", 40) + " ^$.", 18);
        p.faulty("l $p t x $= ( x3 x37 none ) " + Runs.times("ABBBC", 40) + "^A $.", 5);
        p.faulty("l $p t x $= ( x3 x37 none ) " + Runs.times("ABBBC", 20) + Runs.times("ABBBCZ", 10) + " ^$.", 18);
        p.faulty("l $p t x $= ( x3 x37 none ) " + Runs.times("ABBBC", 20) + Runs.times("ABBBCZ", 10) + "^D $.", 5);
        p.faulty("l $p t x $= ( x3 x37 none ) " + Runs.times("ABBBC", 21) + Runs.times("ABBBCZ", 9) + "ABBB^CZ $.", 5);
        p.faulty("l $p t x $= ( x3 x37 none ) " + Runs.times("ABBBC", 21) + Runs.times("ABBBCZ", 9) + "ABBB^C $( $) Z $.", 5);
    }

    /** Rows that are used up make room: 60000 symbols in all, five at a time. */
    private static void manyRows() {
        Runs r = new Runs("many rows");
        r.reads("$c t u $. ax $a t u u u u $. ${ h $e t u u u u $. on $a t u u u u $. $}");
        r.reads("th $p t u u u u $= ( ax on ) A" + Runs.times("B", 12000) + " $.");
        r.due("rows(3)", r.x.rows(3), 12001);
        for (int n = 0; n < 3; n++) {
            r.prints(3, 3, 12000, "t u u u u");
        }
        r.due("check()", r.x.check(), 1);
        Runs q = new Runs("a long row printed often");
        q.reads("$c t $. $v x $. fx $f t x $. x3 $a t x x x $. x37 $a t " + Runs.times("x ", 37)
            + "$. ${ ha $e t x $. hb $e t x $. both $a t $. $} th $p t $= ( fx x3 x37 both ) ABBBCZEED $.");
        for (int n = 0; n < 50; n++) {
            q.prints(3, 6, 4, "t " + Runs.times("x ", 998) + "x");
            q.prints(3, 6, 5, "t");
        }
    }

    /** Each theorem puts the row of the one before it to use twice: sizes 4, 10, 22, .. */
    private static void sizes() {
        Runs r = new Runs("sizes");
        r.reads("$c t $. $v x $. fx $f t x $. ${ h1 $e t x $. h2 $e t x $. d $a t x $. $}");
        long size = 4;
        for (int n = 1; n <= 60; n++) {
            int i = 3 + n;
            StringBuilder letters = new StringBuilder(Runs.times("A", n - 1) + "AAAB");
            for (int k = 1; k < n; k++) {
                letters.append('Z').append(Model.letters(2 + k)).append('B');
            }
            String proof = "( d ) " + letters;
            r.reads("s" + n + " $p t x $= " + proof + " $.");
            r.due("rows(" + i + ")", r.x.rows(i), 2 * n + 2);
            r.due("size(" + i + ")", r.x.size(i), size > 1000000000000000000L ? -2 : size);
            r.prints(4, i, 0, proof);
            if (size <= 4000) {
                r.due("print(5)", r.x.print(5, i, 0), 3 * size - (size - 1) / 3 - 1);
            } else {
                r.printsNot(5, i, 0, -2);
            }
            size = 2 * size + 2;
        }
        r.due("check()", r.x.check(), 1);
        r = new Runs("sizes to the last");
        r.reads("$c t $. zero $a t $. ${ h $e t $. one $a t $. k $e t $. two $a t $. $}");
        sizeOf(r, 1000000000000000000L);
        sizeOf(r, 1000000000000000001L);
        sizeOf(r, 999999999999999999L);
        sizeOf(r, 4001);
    }

    /** A proof of this size: the axiom one is one more than its row, two is one more than its two rows. */
    private static void sizeOf(Runs r, long size) {
        int i = r.x.count(0);
        StringBuilder kinds = new StringBuilder();
        for (long left = size; left > 1; left = left % 2 == 0 ? left - 1 : (left - 1) / 2) {
            kinds.append(left % 2 == 0 ? 'B' : 'C');
        }
        StringBuilder letters = new StringBuilder("A");
        int saved = 0;
        for (char c : kinds.reverse().toString().toCharArray()) {
            if (c == 'C') {
                saved++;
                letters.append('Z').append(Model.letters(3 + saved));
            }
            letters.append(c);
        }
        r.reads("size" + i + " $p t $= ( zero one two ) " + letters + " $.");
        r.due("size", r.x.size(i), size > 1000000000000000000L ? -2 : size);
    }

    private static void printing() {
        Runs r = new Runs("printing");
        String s = Runs.times("s", 60);
        r.reads("$c t " + s + " $. l $a t " + Runs.times(s + " ", 299) + "$.");
        r.due("print(2)", r.x.print(2, 0, 0), 1 + 299 * 61);
        Runs q = new Runs("rows printed");
        q.reads("$c t $. $c " + s + " $. $v x $. fx $f t x $. x3 $a t x x x $. l $a t " + Runs.times(s + " ", 131)
            + "$. one $a t x " + s + " $. ${ h $e t x $. end $a t $. $}");
        /* 1 + 393 * 61 = 23974 characters. */
        q.reads("th $p t $= l x3 l x3 end $.");
        q.due("print(3)", q.x.print(3, 6, 1), 1 + 393 * 61);
        q.reads("ti $p t $= l x3 one l x3 one end $.");
        q.prints(0, 0, 0, "fx");
        q.printsNot(3, 7, 2, -2);
        labelsPrinted();
    }

    private static void labelsPrinted() {
        Runs r = new Runs("labels printed");
        String l = Runs.times("l", 57);
        StringBuilder b = new StringBuilder("$c t $. zero $a t $. ${ h $e t $. one $a t $. two-" + Runs.times("t", 56) + " $a t $. ");
        r.reads(b.append("$}").toString());
        r.reads("th $p t $= zero " + Runs.times("one ", 3999) + "$.");
        r.due("size", r.x.size(4), 4000);
        r.due("print(5)", r.x.print(5, 4, 0), 4 + 3999 * 4);
        r.reads("ti $p t $= zero " + Runs.times("one ", 4000) + "$.");
        r.printsNot(5, 5, 0, -2);
        r.due("rows", r.x.rows(5), 4001);
        r.due("print(4)", r.x.print(4, 5, 0), 2 + 8 + 2 + 1 + 4001 - 1 + 1);
        r.reads("tj $p t $= ( zero two-" + Runs.times("t", 56) + " ) A" + Runs.times("B", 393) + " $.");
        r.due("print(5)", r.x.print(5, 6, 0), 4 + 393 * 61);
        r.reads("tk $p t $= ( zero two-" + Runs.times("t", 56) + " ) A" + Runs.times("B", 394) + " $.");
        r.printsNot(5, 7, 0, -2);
        r.due("check()", r.x.check(), 1);
        packedLabelsPrinted();
    }

    /** Four hundred labels of 60 characters: 300 of them can be listed, the others come by plain proofs. */
    private static void packedLabelsPrinted() {
        Runs r = new Runs("labels of a packed proof");
        String l = Runs.times("l", 57);
        r.reads("$c t $. zero $a t $.");
        r.reads("${ h $e t $. " + numbered(l + "# $a t $.", 100, 500) + "$}");
        r.reads("th $p t $= zero " + numbered(l + "#", 100, 492) + "$.");
        /* The labels alone are 392 * 61 = 23912 characters. */
        r.printsNot(4, 402, 0, -2);
        r.reads("ti $p t $= zero " + numbered(l + "#", 100, 470) + "$.");
        StringBuilder letters = new StringBuilder();
        for (int n = 1; n <= 371; n++) {
            letters.append(Model.letters(n));
        }
        r.prints(4, 403, 0, "( zero " + numbered(l + "#", 100, 470) + ") " + letters);
    }

    public static void main(String[] args) {
        tape();
        names();
        symbols();
        statements();
        lastStatement();
        lengths();
        firstSymbols();
        scopes();
        activePairs();
        frames();
        steps();
        allSteps();
        packedProofs();
        piles();
        sizes();
        printing();
        Runs.finish();
    }
}
