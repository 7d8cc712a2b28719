/** An object that is tested, with a count of its calls, since nothing is promised behind the 512th. */
final class Subject {
    static final int MOST_CALLS = 512;

    private final NetworkDatabase x = new NetworkDatabase();
    private int calls = 0;

    /** The answer as text, or the exact class of what was thrown. */
    String answer(Call call) {
        calls++;
        if (calls > MOST_CALLS) {
            throw new Error("the test goes past the 512th call, with " + call.text);
        }
        return Check.outcome(() -> call.on(x));
    }

    String answer(String call) {
        return answer(new Call(call));
    }
}
