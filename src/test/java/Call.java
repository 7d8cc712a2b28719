import java.util.ArrayList;
import java.util.List;

/**
 * One call of the face, written as text: "store(0, least)", where least and greatest stand for the
 * least and the greatest int.
 */
final class Call {
    final String text;
    private final String name;
    private final int[] numbers;

    Call(String text) {
        this.text = text;
        int open = text.indexOf('(');
        if (open < 0 || !text.endsWith(")")) {
            throw new Error("no call: " + text);
        }
        name = text.substring(0, open);
        String inside = text.substring(open + 1, text.length() - 1).trim();
        String[] words = inside.isEmpty() ? new String[0] : inside.split(", *");
        numbers = new int[words.length];
        for (int place = 0; place < words.length; place++) {
            numbers[place] = number(words[place]);
        }
    }

    /** The calls of a row, with semicolons between them. */
    static List<Call> row(String texts) {
        List<Call> calls = new ArrayList<>();
        for (String text : texts.split(";")) {
            if (!text.isBlank()) {
                calls.add(new Call(text.trim()));
            }
        }
        return calls;
    }

    boolean is(String ofThisName) {
        return name.equals(ofThisName);
    }

    private static int number(String word) {
        switch (word) {
            case "true":
                return 1;
            case "false":
                return 0;
            case "least":
                return Integer.MIN_VALUE;
            case "greatest":
                return Integer.MAX_VALUE;
            default:
                return Integer.parseInt(word);
        }
    }

    private boolean flag(int place) {
        return numbers[place] == 1;
    }

    int on(NetworkDatabase x) {
        int[] n = numbers;
        switch (name) {
            case "declare":
                return x.declare(n[0], n[1], n[2], flag(3), n[4]);
            case "store":
                return x.store(n[0], n[1]);
            case "modify":
                return x.modify(n[0]);
            case "erase":
                return x.erase(n[0]);
            case "connect":
                return x.connect(n[0]);
            case "disconnect":
                return x.disconnect(n[0]);
            case "reconnect":
                return x.reconnect(n[0], n[1]);
            case "find":
                return x.find(n[0]);
            case "findOf":
                return x.findOf(n[0], flag(1));
            case "findEnd":
                return x.findEnd(n[0], flag(1));
            case "findNext":
                return x.findNext(n[0], flag(1));
            case "findOwner":
                return x.findOwner(n[0]);
            case "findValue":
                return x.findValue(n[0], n[1]);
            default:
                return asking(x, n);
        }
    }

    private int asking(NetworkDatabase x, int[] n) {
        switch (name) {
            case "setTypes":
                return x.setTypes();
            case "records":
                return x.records();
            case "current":
                return x.current();
            case "currentOf":
                return x.currentOf(n[0]);
            case "currentIn":
                return x.currentIn(n[0]);
            case "typeOf":
                return x.typeOf(n[0]);
            case "valueOf":
                return x.valueOf(n[0]);
            case "ownerOf":
                return x.ownerOf(n[0], n[1]);
            case "members":
                return x.members(n[0], n[1]);
            case "membersByTable":
                return x.membersByTable(n[0], n[1]);
            case "memberAt":
                return x.memberAt(n[0], n[1], n[2]);
            case "wouldErase":
                return x.wouldErase(n[0], n[1]);
            default:
                throw new Error("no call of the face: " + text);
        }
    }
}
