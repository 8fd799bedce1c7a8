import java.util.Arrays;
import java.util.function.Supplier;

/** A call with numbers that are all as told: one of them after the other is led up to its bounds and beyond. */
final class Edges {
    interface Call {
        long on(LawRings x, int[] a);
    }

    private static final int[] ODD = {
        Integer.MIN_VALUE, Integer.MIN_VALUE + 1, Integer.MAX_VALUE - 1, Integer.MAX_VALUE,
        // Six, three, two or four of these wrap around to a small number, as the place in a row would.
        715827883, -715827882, 1431655766, -1431655765, 1073741824, -1073741824,
        // A byte or a short keeps a small number of these, and a shift by them is none.
        256, -256, 65536, -65536, 65537, 32, -32, 64, -64,
        // What calls answer, and the bounds of other numbers.
        -2, -3, -4, -5, -10, 2, 3, 4, 5, 6, 8, 11, 12, 14, 16, 60, 1000, 15625 };

    private final String name;
    private final Supplier<LawRings> made;
    private final Call call;
    private final long refused;
    private final int[] good;

    Edges(String name, Supplier<LawRings> made, Call call, long refused, int... good) {
        this.name = name;
        this.made = made;
        this.call = call;
        this.refused = refused;
        this.good = good;
    }

    /** The number at this place is taken from low to high, and refused, changing nothing, on both sides of that. */
    void bounds(int place, int low, int high) {
        takes(place, low);
        takes(place, high);
        LawRings x = made.get();
        LawRings twin = made.get();
        refuses(x, place, low - 1);
        refuses(x, place, high + 1);
        for (int odd : ODD) {
            if (odd < low || odd > high) refuses(x, place, odd);
        }
        Worlds.alike(name + " refused by number " + place, x, twin);
    }

    void takes(int place, int v) {
        int[] a = with(place, v);
        long got = call.on(made.get(), a);
        if (got == refused || got == Sentences.FULL || got == Sentences.NO) {
            Sentences.complain(name + Arrays.toString(a) + " is refused: " + got);
        }
    }

    private void refuses(LawRings x, int place, int v) {
        int[] a = with(place, v);
        long before = x.digest();
        Sentences.due(name + Arrays.toString(a), call.on(x, a), refused);
        Sentences.due("digest behind " + name + Arrays.toString(a), x.digest(), before);
    }

    private int[] with(int place, int v) {
        int[] a = good.clone();
        a[place] = v;
        return a;
    }
}
