/** Promises 1, 2 and 15: a new object, declare, setTypes. */
public final class DeclareTest {
    public static void main(String[] args) {
        newObject();
        numbersRise();
        wrongArguments();
        mostSetTypes();
        notAfterStoring();
        whatIsDeclaredHolds();
        Check.end("DeclareTest");
    }

    private static void newObject() {
        NetworkDatabase x = new NetworkDatabase();
        Check.due("new: setTypes", 0, x::setTypes);
        Check.due("new: records", 0, x::records);
        Check.currents("new", x, -1, -1, -1, -1, -1);
        Check.index("new: currentIn 0", () -> x.currentIn(0));
        Check.index("new: typeOf 0", () -> x.typeOf(0));
        Check.due("new: find 0", -1, () -> x.find(0));
        NetworkDatabase y = new NetworkDatabase();
        y.declare(0, 1, 0, false, 0);
        y.store(0, 1);
        Check.due("another object's set types", 0, x::setTypes);
        Check.due("another object's records", 0, x::records);
    }

    private static void numbersRise() {
        NetworkDatabase x = new NetworkDatabase();
        for (int set = 0; set < 6; set++) {
            int s = set;
            Check.due("setTypes ahead of " + s, s, x::setTypes);
            Check.due("declare " + s, s, () -> x.declare(s % 4, (s + 1) % 4, s % 5, s % 2 == 0, s % 3));
        }
        Check.due("setTypes at the end", 6, x::setTypes);
    }

    private static void wrongArguments() {
        NetworkDatabase x = new NetworkDatabase();
        int[] noTypes = {-1, 4, Integer.MIN_VALUE, Integer.MAX_VALUE};
        for (int type : noTypes) {
            Check.argument("owner " + type, () -> x.declare(type, 1, 0, true, 0));
            Check.argument("member " + type, () -> x.declare(1, type, 0, true, 0));
            Check.argument("both types " + type, () -> x.declare(type, type, 0, true, 0));
        }
        for (int type = 0; type < 4; type++) {
            int t = type;
            Check.argument("same types " + t, () -> x.declare(t, t, 0, true, 0));
        }
        int[] noInsertions = {-1, 5, Integer.MIN_VALUE, Integer.MAX_VALUE};
        for (int insertion : noInsertions) {
            Check.argument("insertion " + insertion, () -> x.declare(0, 1, insertion, true, 0));
        }
        int[] noRetentions = {-1, 3, Integer.MIN_VALUE, Integer.MAX_VALUE};
        for (int retention : noRetentions) {
            Check.argument("retention " + retention, () -> x.declare(0, 1, 0, true, retention));
        }
        Check.due("nothing was declared", 0, x::setTypes);
        Check.due("the edges", 0, () -> x.declare(3, 0, 4, false, 2));
        Check.due("the other edges", 1, () -> x.declare(0, 3, 0, true, 0));
    }

    private static void mostSetTypes() {
        NetworkDatabase x = new NetworkDatabase();
        for (int set = 0; set < 6; set++) {
            x.declare(0, 1, 0, false, 0);
        }
        Check.state("a seventh", () -> x.declare(0, 1, 0, false, 0));
        Check.argument("a seventh that is wrong", () -> x.declare(0, 0, 0, false, 0));
        Check.due("six there are", 6, x::setTypes);
        Check.index("the seventh's current", () -> x.currentIn(6));
        Check.due("the sixth's current", -1, () -> x.currentIn(5));
    }

    private static void notAfterStoring() {
        NetworkDatabase x = new NetworkDatabase();
        x.store(0, 0);
        Check.state("after a record", () -> x.declare(0, 1, 0, false, 0));
        Check.argument("wrong after a record", () -> x.declare(0, 1, 0, false, 3));
        x.erase(0);
        Check.due("no record is left", 0, x::records);
        Check.state("after a record that was erased", () -> x.declare(0, 1, 0, false, 0));
        Check.due("still none", 0, x::setTypes);
        NetworkDatabase y = new NetworkDatabase();
        Check.argument("a store that failed", () -> y.store(4, 0));
        Check.due("declare after it", 0, () -> y.declare(0, 1, 0, false, 0));
    }

    private static void whatIsDeclaredHolds() {
        NetworkDatabase x = new NetworkDatabase();
        x.declare(2, 3, 1, true, 0);
        x.declare(2, 3, 1, false, 2);
        x.store(2, 0);
        Check.due("a member", 1, () -> x.store(3, 0));
        Check.due("automatic", 0, () -> x.ownerOf(1, 0));
        Check.due("manual", -1, () -> x.ownerOf(1, 1));
        Check.due("owner type", 1, () -> x.members(0, 0));
        Check.due("not the owner type", -1, () -> x.members(1, 0));
        Check.state("fixed", () -> x.disconnect(0));
    }
}
