/** Promise 20: every short text over the bytes that matter has the fault that the plain reading finds. */
final class FaultsTest {
    private static final String LETTERS = "rwt0159a(),; ";
    private static final int MOST_BYTES = 5;
    /** Behind these a text is at its deepest, or in the middle of a step. */
    private static final String[] BEGINNINGS = {"", "1(1(1(1(", "1(1(1(", "ra0,", "2 (t9;)"};
    private static final int TEXTS_OF_AN_OBJECT = 30;

    private RoomKeeper x = new RoomKeeper();
    private int texts = 0;

    public static void main(String[] args) {
        FaultsTest test = new FaultsTest();
        for (String beginning : BEGINNINGS) {
            test.extend(beginning, beginning.isEmpty() ? MOST_BYTES : MOST_BYTES - 1);
        }
        Due.end();
    }

    private void extend(String text, int rest) {
        compare(text);
        for (int i = 0; rest > 0 && i < LETTERS.length(); i++) {
            extend(text + LETTERS.charAt(i), rest - 1);
        }
    }

    private void compare(String text) {
        texts++;
        if (texts % TEXTS_OF_AN_OBJECT == 0) {
            x = new RoomKeeper();
        }
        x.clear();
        for (int i = 0; i < text.length(); i++) {
            x.type(text.charAt(i));
        }
        int fault = new ModelScript(text, null).fault();
        int answer = x.run();
        Due.is("run of '" + text + "'", Math.min(answer, 0), fault < 0 ? 0 : -2000 - fault);
    }
}
