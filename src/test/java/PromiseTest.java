public final class PromiseTest {
    public static void main(String[] args) {
        Checks.answers("a new object's count(0)", 0, () -> new ClaimTriangle().count(0));
        Checks.end();
    }
}
