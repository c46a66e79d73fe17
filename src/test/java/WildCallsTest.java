import java.util.Random;

/** Any numbers in any call: nothing is thrown, refusals come in their words, and what is refused changes nothing. */
public final class WildCallsTest {
    private static final int CALLS = 28;
    private static final int[] WILD = {Integer.MIN_VALUE, Integer.MIN_VALUE + 1, -1000100, -129, -2, -1, 0, 1, 2, 3, 4, 5, 6, 7, 8, 9,
        10, 11, 12, 16, 17, 39, 40, 41, 127, 128, 255, 1000, 1001, 20000, 20001, 65535, 1 << 30, Integer.MAX_VALUE - 1, Integer.MAX_VALUE};

    private final Random random;
    private final int tameness;

    private WildCallsTest(long seed, int tameness) {
        random = new Random(seed);
        this.tameness = tameness;
    }

    public static void main(String[] args) {
        for (int seed = 0; seed < 6000; seed++) {
            new WildCallsTest(seed, seed % 5).tryObject();
        }
        Check.end();
    }

    private int number() {
        return random.nextInt(5) < tameness ? random.nextInt(random.nextBoolean() ? 3 : 9) : WILD[random.nextInt(WILD.length)];
    }

    private void tryObject() {
        LightLines x = new LightLines();
        if (tameness > 1) {
            Check.draw(x, 0, 0, 40, 30, 80, 0);
            Check.draw(x, 100, 100);
            Check.draw(x, 10, 0, 10, 10, 20, 20, 10, 0);
        }
        // Twice 60 calls, and one with 75 questions ahead of it and behind it, are within the 512.
        for (int round = 0; round < 2; round++) {
            for (int call = 0; call < 60; call++) {
                someCall(x, random.nextInt(CALLS));
            }
            callThatMayBeRefused(x);
        }
        // What is answered from here on is free; nothing may be thrown all the same.
        for (int call = 0; call < 300; call++) {
            someCall(x, random.nextInt(CALLS));
        }
    }

    private long someCall(LightLines x, int which) {
        return doCall(x, which, number(), number(), number(), number(), number());
    }

    private void callThatMayBeRefused(LightLines x) {
        String before = digest(x);
        int trace = x.trace(0);
        int finding = x.status();
        int which = random.nextInt(CALLS);
        long answer = someCall(x, which);
        boolean refused = answer <= -1000001 && answer >= -1000003;
        boolean found = answer <= -1000011 && answer >= -1000015;
        if (refused || found) {
            Check.due("call " + which + " answered " + answer + " and changed nothing", before.equals(digest(x)) ? 1 : 0, 1);
            Check.due("the trace stays", x.trace(0), trace);
        }
        if (refused) {
            Check.due("call " + which + " leaves status", x.status(), finding);
        }
        if (found) {
            Check.due("call " + which + " sets status", x.status(), -1000010 - answer);
        }
    }

    /** All that can be asked without a change: sheets only by how many there are. */
    private static String digest(LightLines x) {
        StringBuilder all = new StringBuilder();
        for (int what = 0; what < 8; what++) {
            all.append(x.count(what)).append(' ').append(x.all(what)).append(' ').append(x.tick(3, what)).append(' ');
            all.append(x.order(what, 0)).append(' ').append(x.order(what, 1)).append(' ').append(x.kind(what)).append(' ');
            all.append(x.frame(what, 0)).append(' ').append(x.frame(what, 1)).append(' ').append(x.point(what, 0, 0)).append(' ');
        }
        return all.append(x.ticks()).append(' ').append(x.fault()).append(' ').append(x.burn(0, 0)).toString();
    }

    private long doCall(LightLines x, int which, int a, int b, int c, int d, int e) {
        switch (which) {
            case 0: return x.sheet(a, b, c);
            case 1: return x.set(a, b, c);
            case 2: return x.copy(a, b, c, d, e);
            case 3: return x.drop(a);
            case 4: return x.stroke(a, b, c);
            case 5: return x.point(a, b, c);
            case 6: return x.plan(a, b);
            case 7: return x.best();
            case 8: return x.order(a, b);
            case 9: return x.rule(a, b);
            case 10: return x.zone(a, b, c, d, e);
            case 11: return x.open(a);
            case 12: return x.ticks();
            case 13: return x.tick(a, b);
            case 14: return x.all(a);
            case 15: return x.burn(a, b);
            case 16: return x.feed(random.nextLong(), a);
            case 17: return random.nextInt(4) == 0 ? x.cues() : 0;
            case 18: return x.fault();
            case 19: return x.frame(a, b);
            case 20: return x.kind(a);
            case 21: return x.as(a, b);
            case 22: return x.ask(a, b);
            case 23: return x.trace(a);
            case 24: return x.count(a);
            case 25: return x.feed(0x6174203120646172L, 8) < 0 || x.feed(0x6b3bL, 2) < 0 ? 0 : x.cues();
            case 26: return x.rule(0, 1 + random.nextInt(1000));
            default: return x.status();
        }
    }
}
