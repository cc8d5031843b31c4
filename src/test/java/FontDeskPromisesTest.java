public final class FontDeskPromisesTest {
    public static void main(String[] args) {
    }
}
