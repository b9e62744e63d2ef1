/** A new object answers as an ORDER without LINES does. */
public final class SmokeTest {
    public static void main(String[] args) {
        SpanCopier x = new SpanCopier();
        if (x.count(0) != 8 || x.count(8) != 0 || x.order() != 0) {
            System.exit(1);
        }
    }
}
