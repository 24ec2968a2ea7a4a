/** Promises, by hand: to be split and grown. */
public final class PromiseTest {
    public static void main(String[] args) {
        FloodLent x = Check.with("river weeks 4 more 10 back 2; village pond 50 water 10 face 20 seep 3;");
        Check.due("count(5)", x.count(5), 2);
        Check.due("water(0, 0)", x.water(0, 0), 7);
        Check.close("PromiseTest");
    }
}
