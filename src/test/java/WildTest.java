import java.util.Random;

/** No call throws, whatever its arguments and whatever was read before, and wrong ones change nothing. */
public final class WildTest {
    private static final int[] NUMBERS = {Integer.MIN_VALUE, -1000000, -3, -2, -1, 0, 1, 2, 3, 5, 8, 13, 60, 100, 1000, 1500, 20000,
        24000, 60000, 65536, 1 << 20, Integer.MAX_VALUE};
    private static final String[] TOKENS = {"$c", "$v", "$d", "$f", "$e", "$a", "$p", "$=", "$.", "${", "$}", "$(", "$)", "(", ")", "?",
        "|-", "wff", "x", "y", "l", "m", "n", "A", "B", "AZ", "UA", "YYYYYYYYYYYYT", "\u0001", "=", "->"};

    private final Random chance;
    private final Runs r;

    private WildTest(long seed) {
        chance = new Random(seed);
        r = new Runs("wild " + seed);
    }

    private int number() {
        return chance.nextInt(3) == 0 ? NUMBERS[chance.nextInt(NUMBERS.length)] : chance.nextInt(20) - 2;
    }

    private void text() {
        StringBuilder b = new StringBuilder();
        for (int n = chance.nextInt(40); n > 0; n--) {
            b.append(TOKENS[chance.nextInt(TOKENS.length)]).append(chance.nextInt(12) == 0 ? "" : " ");
        }
        r.put(b.toString());
    }

    private long call(int which) {
        ProofLibrary x = r.x;
        switch (which) {
            case 0: return x.feed(number(), number(), number(), number(), number());
            case 1: return x.end(number());
            case 2: return x.read();
            case 3: return x.place();
            case 4: return x.count(number());
            case 5: return x.kind(number());
            case 6: return x.length(number());
            case 7: return x.symbol(number(), number());
            case 8: return x.variable(number());
            case 9: return x.find(number());
            case 10: return x.frame(number(), number());
            case 11: return x.hypothesis(number(), number());
            case 12: return x.apart(number(), number(), number());
            case 13: return x.rows(number());
            case 14: return x.row(number(), number());
            case 15: return x.from(number(), number(), number());
            case 16: return x.rests(number(), number());
            case 17: return x.size(number());
            case 18: return x.print(number(), number(), number());
            case 19: return x.character(number());
            case 20: return x.trees(number());
            case 21: return x.equate(number());
            case 22: return x.definition(number());
            case 23: return x.apply(number());
            default: return x.check();
        }
    }

    private void run() {
        Texts texts = new Texts(chance.nextInt());
        if (chance.nextInt(3) > 0) {
            Model.State none = new Model.State();
            r.put(texts.next(15, none));
            r.x.read();
        }
        for (int n = 0; n < 500; n++) {
            if (chance.nextInt(5) == 0) {
                text();
            }
            int which = chance.nextInt(25);
            long answer = call(which);
            if (answer < -2) {
                r.due("call " + which, answer, -1);
            }
        }
        r.due("check()", r.x.check(), 1);
    }

    public static void main(String[] args) {
        for (long seed = 1; seed <= 200; seed++) {
            new WildTest(seed).run();
        }
        Runs.finish();
    }
}
