/** One library and what is due of it; each wrong answer is printed. */
final class Runs {
    static int wrong;

    final ProofLibrary x = new ProofLibrary();
    private final String name;

    Runs(String name) {
        this.name = name;
    }

    void due(String call, long got, long want) {
        if (got != want) {
            wrong++;
            System.out.println(name + ": " + call + " answered " + got + ", due is " + want);
        }
    }

    /** Puts a text behind the tape. */
    void put(String text) {
        for (int at = 0; at < text.length(); at += 20) {
            int[] n = new int[5];
            for (int k = 0; k < 20; k++) {
                int c = at + k < text.length() ? text.charAt(at + k) : 0;
                n[k / 4] = n[k / 4] << 8 | c;
            }
            if (x.feed(n[0], n[1], n[2], n[3], n[4]) == ProofLibrary.FULL) {
                due("feed", ProofLibrary.FULL, 0);
            }
        }
        if (text.length() % 20 != 0) {
            x.end(text.length() % 20);
        }
    }

    void reads(String text) {
        faulty(text + "^", 0);
    }

    /** Reads a text; its fault is due where the mark ^ stands in it. */
    void faulty(String marked, int fault) {
        int place = marked.indexOf('^');
        String text = marked.substring(0, place) + marked.substring(place + 1);
        int statements = x.count(0);
        int symbols = x.count(1);
        int steps = x.count(8);
        int pairs = x.count(9);
        put(text);
        String told = text.length() > 200 ? text.substring(0, 200) + " .." : text;
        due("read() of " + told, x.read(), fault);
        due("place() of " + told, x.place(), fault == 0 ? -1 : place);
        if (fault != 0) {
            due("count(0) after " + told, x.count(0), statements);
            due("count(1) after " + told, x.count(1), symbols);
            due("count(8) after " + told, x.count(8), steps);
            due("count(9) after " + told, x.count(9), pairs);
        }
    }

    String shown() {
        StringBuilder b = new StringBuilder();
        for (int k = 0; x.character(k) != -1; k++) {
            b.append((char) x.character(k));
        }
        return b.toString();
    }

    void shows(String call, String want) {
        String got = shown();
        if (!got.equals(want)) {
            wrong++;
            System.out.println(name + ": " + call + " printed " + got + ", due is " + want);
        }
    }

    void prints(int what, int i, int k, String want) {
        String call = "print(" + what + ", " + i + ", " + k + ")";
        due(call, x.print(what, i, k), want.length());
        shows(call, want);
    }

    /** What was printed stays. */
    void printsNot(int what, int i, int k, int answer) {
        String before = shown();
        String call = "print(" + what + ", " + i + ", " + k + ")";
        due(call, x.print(what, i, k), answer);
        shows(call, before);
    }

    void applies(int i, String row, int answer, String want) {
        put(row);
        due("apply(" + i + ") to " + row, x.apply(i), answer);
        shows("apply(" + i + ") to " + row, want);
    }

    int finds(String name, int what) {
        put(name);
        return x.find(what);
    }

    static String times(String part, int n) {
        StringBuilder b = new StringBuilder();
        for (int k = 0; k < n; k++) {
            b.append(part);
        }
        return b.toString();
    }

    static void finish() {
        if (wrong > 0) {
            System.exit(1);
        }
    }
}
