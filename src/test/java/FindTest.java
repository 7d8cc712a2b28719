/** Promises 9 to 14: find, findOf, findEnd, findNext, findOwner, findValue. */
public final class FindTest {
    public static void main(String[] args) {
        find();
        findOf();
        findEnd();
        findNext();
        findOwner();
        findValue();
        noCurrentSet();
        noSuchSetType();
        Check.end("FindTest");
    }

    /** Two owners, 0 and 1; the first one's members 2, 3, 4, the second one has none; 5 is of no set. */
    private static NetworkDatabase filled() {
        NetworkDatabase x = new NetworkDatabase();
        x.declare(0, 1, 1, false, 2);
        x.declare(1, 2, 1, true, 2);
        x.store(0, 0);
        x.store(0, 1);
        x.find(0);
        int[] values = {7, 8, 7};
        for (int value : values) {
            x.store(1, value);
            x.connect(0);
        }
        x.store(3, 9);
        return x;
    }

    private static void find() {
        NetworkDatabase x = filled();
        Check.due("an owner", 1, () -> x.find(1));
        Check.currents("owner", x, 1, 1, 4, -1, 5, 1, 4);
        Check.due("a member that owns", 3, () -> x.find(3));
        Check.currents("member", x, 3, 1, 3, -1, 5, 3, 3);
        Check.due("one of no set", 5, () -> x.find(5));
        Check.currents("of no set", x, 5, 1, 3, -1, 5, 3, 3);
        int[] none = {-1, 6, 59, 60, Integer.MIN_VALUE, Integer.MAX_VALUE};
        for (int record : none) {
            Check.due("find " + record, -1, () -> x.find(record));
        }
        Check.currents("nothing changed", x, 5, 1, 3, -1, 5, 3, 3);
        x.erase(0);
        Check.due("an erased one", -1, () -> x.find(5));
        Check.currents("nothing changed again", x, -1, 1, 3, -1, -1, 3, 3);
    }

    private static void findOf() {
        NetworkDatabase x = filled();
        Check.due("behind the last of the type", -1, () -> x.findOf(1, false));
        Check.currents("nothing changed", x, 5, 0, 4, -1, 5, 4, 4);
        Check.due("anew", 2, () -> x.findOf(1, true));
        Check.currents("made current", x, 2, 0, 2, -1, 5, 2, 2);
        Check.due("the next", 3, () -> x.findOf(1, false));
        Check.due("another type", 1, () -> x.findOf(0, false));
        Check.due("it goes on", 4, () -> x.findOf(1, false));
        Check.due("none of the type, anew", -1, () -> x.findOf(2, true));
        Check.due("none of the type", -1, () -> x.findOf(2, false));
        x.find(3);
        x.erase(0);
        Check.due("the current one was erased: the first", 2, () -> x.findOf(1, false));
        Check.due("the erased one is passed over", 4, () -> x.findOf(1, false));
        x.find(2);
        x.erase(0);
        Check.due("the first one there is", 4, () -> x.findOf(1, true));
        int[] noTypes = {-1, 4, Integer.MIN_VALUE, Integer.MAX_VALUE};
        for (int type : noTypes) {
            Check.argument("findOf " + type, () -> x.findOf(type, true));
            Check.argument("currentOf " + type, () -> x.currentOf(type));
        }
        NetworkDatabase y = new NetworkDatabase();
        Check.due("no record", -1, () -> y.findOf(3, false));
    }

    private static void findEnd() {
        NetworkDatabase x = filled();
        x.find(3);
        Check.due("last from a member", 4, () -> x.findEnd(0, true));
        Check.due("first from a member", 2, () -> x.findEnd(0, false));
        Check.currents("made current", x, 2, 0, 2, -1, 5, 2, 2);
        x.find(0);
        Check.due("last from the owner", 4, () -> x.findEnd(0, true));
        x.find(0);
        Check.due("first from the owner", 2, () -> x.findEnd(0, false));
        x.find(1);
        Check.due("no first one", -1, () -> x.findEnd(0, false));
        Check.due("no last one", -1, () -> x.findEnd(0, true));
        Check.currents("nothing changed", x, 1, 1, 2, -1, 5, 1, 2);
    }

    private static void findNext() {
        NetworkDatabase x = filled();
        x.find(0);
        int[] behind = {2, 3, 4, -1, -1};
        for (int want : behind) {
            Check.due("behind", want, () -> x.findNext(0, false));
        }
        Check.currents("it stays at the last", x, 4, 0, 4, -1, 5, 4, 4);
        int[] ahead = {3, 2, -1, -1};
        for (int want : ahead) {
            Check.due("ahead", want, () -> x.findNext(0, true));
        }
        x.find(0);
        Check.due("ahead of the owner", 4, () -> x.findNext(0, true));
        x.find(1);
        Check.due("behind an owner without members", -1, () -> x.findNext(0, false));
        Check.due("ahead of an owner without members", -1, () -> x.findNext(0, true));
        Check.currents("nothing changed", x, 1, 1, 4, -1, 5, 1, 4);
    }

    private static void findOwner() {
        NetworkDatabase x = filled();
        x.find(3);
        Check.due("of a member", 0, () -> x.findOwner(0));
        Check.currents("made current", x, 0, 0, 3, -1, 5, 0, 3);
        x.find(1);
        Check.due("of an owner", 1, () -> x.findOwner(0));
        Check.due("another set type", 3, () -> x.findOwner(1));
        Check.currents("member and owner", x, 3, 1, 3, -1, 5, 3, 3);
    }

    private static void findValue() {
        NetworkDatabase x = filled();
        x.find(4);
        Check.due("from the first on", 2, () -> x.findValue(0, 7));
        Check.due("not the one behind", 2, () -> x.findValue(0, 7));
        Check.due("in the middle", 3, () -> x.findValue(0, 8));
        Check.currents("made current", x, 3, 0, 3, -1, 5, 3, 3);
        int[] none = {9, 0, 1, -1, Integer.MIN_VALUE, Integer.MAX_VALUE};
        for (int value : none) {
            Check.due("value " + value, -1, () -> x.findValue(0, value));
        }
        Check.currents("nothing changed", x, 3, 0, 3, -1, 5, 3, 3);
        x.modify(-1000);
        x.find(0);
        Check.due("a value that was changed", 3, () -> x.findValue(0, -1000));
        x.find(1);
        Check.due("a set without members", -1, () -> x.findValue(0, 7));
        Check.due("the owner's own value", -1, () -> x.findValue(0, 1));
    }

    private static void noCurrentSet() {
        NetworkDatabase x = new NetworkDatabase();
        x.declare(0, 1, 1, false, 2);
        for (int round = 0; round < 2; round++) {
            Check.due("findEnd", -1, () -> x.findEnd(0, false));
            Check.due("findEnd last", -1, () -> x.findEnd(0, true));
            Check.due("findNext", -1, () -> x.findNext(0, false));
            Check.due("findNext prior", -1, () -> x.findNext(0, true));
            Check.due("findOwner", -1, () -> x.findOwner(0));
            Check.due("findValue", -1, () -> x.findValue(0, -1));
            x.store(1, -1);
        }
        Check.currents("nothing changed", x, 1, -1, 1, -1, -1, -1);
    }

    private static void noSuchSetType() {
        NetworkDatabase x = filled();
        int[] none = {-1, 2, 6, Integer.MIN_VALUE, Integer.MAX_VALUE};
        for (int set : none) {
            Check.index("findEnd " + set, () -> x.findEnd(set, true));
            Check.index("findNext " + set, () -> x.findNext(set, true));
            Check.index("findOwner " + set, () -> x.findOwner(set));
            Check.index("findValue " + set, () -> x.findValue(set, 7));
        }
        Check.currents("nothing changed", x, 5, 0, 4, -1, 5, 4, 4);
    }
}
