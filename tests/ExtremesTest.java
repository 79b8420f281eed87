import java.util.NoSuchElementException;
import java.util.Random;

/** No call throws by itself, whatever it is given, in whatever state; 512 calls on each object. */
public final class ExtremesTest {
    private static final int[] EDGES = {Integer.MIN_VALUE, Integer.MIN_VALUE + 1, -1000000, -241, -2, -1, 0, 1, 2, 3, 4, 5, 6, 7,
        11, 12, 16, 17, 23, 24, 25, 100, 126, 239, 240, 241, 699, 700, 701, 999, 1000, 999999, 1000000, Integer.MAX_VALUE - 1,
        Integer.MAX_VALUE};
    private static final String[] TEXTS = {
        "drum room 20 loud 10;size a;size b;sieve a slips 0;liner 1;bin 1 draws 0;price 0;ore x hard 1 tons 0",
        "drum room 20 loud 200;size a breaks 100 next 100;size b;sieve b slips 50;liner 1;bin 1 draws 200;price 99;"
            + "ore x hard 9 tons 50,50",
        "drum room 999 loud 200;size a breaks 100 next 0;size b breaks 100 next 50;size c breaks 50 next 100;size d;"
            + "size e breaks 100 next 100;sieve e slips 50;liner 200;bin 999 draws 200;price 99,0,99,1,2,3;"
            + "ore x hard 1 tons 50,50,50,50,50;ore y hard 9 tons 1;ore z hard 5 tons 0,0,0,0,50;ore w hard 2 tons 9,9"};

    private final Random random = new Random(7);
    private final Checks checks = new Checks();

    public static void main(String[] args) {
        ExtremesTest test = new ExtremesTest();
        for (int i = 0; i < 400; i++) {
            test.run(i);
        }
        test.checks.finish();
    }

    private int any() {
        return random.nextInt(3) == 0 ? EDGES[random.nextInt(EDGES.length)] : random.nextInt(6);
    }

    private void run(int number) {
        checks.in("run " + number);
        RoarMill x = new RoarMill();
        if (number % 8 != 0) {
            Checks.mill(x, TEXTS[number % TEXTS.length]);
        }
        for (int i = 0; i < 480; i++) {
            int call = random.nextInt(29);
            try {
                ask(x, call);
            } catch (NoSuchElementException e) {
                checks.due("call " + call + " throws as led() may", call, 26);
            } catch (RuntimeException e) {
                checks.due("call " + call + " throws " + e, 1, 0);
            }
            checks.due("TROUBLE is one", x.trouble() >= 0 && x.trouble() <= 6, true);
            checks.due("NOW is one", x.state(7) >= 0 && x.state(7) <= 240, true);
        }
    }

    private void ask(RoarMill x, int call) {
        int a = any(), b = any(), c = any(), d = any(), e = any();
        switch (call) {
            case 0: x.feed(a, b, c, d, e); break;
            case 1: x.mill(a); break;
            case 2: x.fault(); break;
            case 3: x.where(); break;
            case 4: x.set(a, b, c); break;
            case 5: x.mend(a, b > 0); break;
            case 6: x.go(a); break;
            case 7: x.tons(a, b); break;
            case 8: x.state(a); break;
            case 9: x.program(a, b, c, d); break;
            case 10: x.seen(a, b, c, d); break;
            case 11: x.forget(); break;
            case 12: x.fits(); break;
            case 13: x.fitAt(a, b); break;
            case 14: x.certain(a); break;
            case 15: x.guess(a, b, c, d, e); break;
            case 16: x.swapped(); break;
            case 17: x.plan(a); break;
            case 18: x.rate(a); break;
            case 19: x.rule(a); break;
            case 20: x.lacks(a); break;
            case 21: x.number(a > 0, b); break;
            case 22: x.chance(); break;
            case 23: x.splits(); break;
            case 24: x.clear(); break;
            case 25: x.marks(a, b, c, d, e, any()); break;
            case 26: x.led(a); break;
            case 27: x.size(a); break;
            default: Checks.mill(x, TEXTS[random.nextInt(TEXTS.length)]); break;
        }
    }
}
