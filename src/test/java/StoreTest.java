/** Promises 3, 16, 20 and 21: store, records, typeOf, valueOf. */
public final class StoreTest {
    public static void main(String[] args) {
        numbersAndTables();
        wrongArguments();
        mostRecords();
        automaticSets();
        noCurrentSet();
        becomesCurrent();
        erasedRecords();
        Check.end("StoreTest");
    }

    private static void numbersAndTables() {
        NetworkDatabase x = new NetworkDatabase();
        int[] values = {-1000, 0, 7, 1000};
        for (int type = 0; type < 4; type++) {
            int t = type;
            Check.due("store " + t, t, () -> x.store(t, values[t]));
            Check.due("records after " + t, t + 1, x::records);
        }
        for (int record = 0; record < 4; record++) {
            int r = record;
            Check.due("typeOf " + r, r, () -> x.typeOf(r));
            Check.due("valueOf " + r, values[r], () -> x.valueOf(r));
        }
        int[] none = {-1, 4, 59, 60, Integer.MIN_VALUE, Integer.MAX_VALUE};
        for (int record : none) {
            Check.index("typeOf " + record, () -> x.typeOf(record));
            Check.index("valueOf " + record, () -> x.valueOf(record));
        }
    }

    private static void wrongArguments() {
        NetworkDatabase x = new NetworkDatabase();
        int[] noTypes = {-1, 4, Integer.MIN_VALUE, Integer.MAX_VALUE};
        for (int type : noTypes) {
            Check.argument("type " + type, () -> x.store(type, 0));
        }
        int[] noValues = {-1001, 1001, Integer.MIN_VALUE, Integer.MAX_VALUE};
        for (int value : noValues) {
            Check.argument("value " + value, () -> x.store(0, value));
        }
        Check.due("nothing was stored", 0, x::records);
        Check.due("nothing is current", -1, x::current);
        Check.due("the first number", 0, () -> x.store(0, 0));
    }

    private static void mostRecords() {
        NetworkDatabase x = new NetworkDatabase();
        for (int record = 0; record < 60; record++) {
            int r = record;
            Check.due("store the number " + r, r, () -> x.store(r % 4, r));
        }
        Check.due("sixty", 60, x::records);
        Check.state("one more", () -> x.store(0, 0));
        Check.argument("one more that is wrong", () -> x.store(4, 0));
        Check.due("the last one is current", 59, x::current);
        Check.due("erase one", 1, () -> x.erase(0));
        Check.due("fifty-nine", 59, x::records);
        Check.state("sixty were stored all the same", () -> x.store(0, 0));
        Check.due("the last but one", 58, () -> x.valueOf(58));
        Check.index("the erased one", () -> x.valueOf(59));
    }

    private static void automaticSets() {
        NetworkDatabase x = new NetworkDatabase();
        x.declare(0, 2, 1, true, 0);
        x.declare(1, 2, 0, true, 1);
        x.declare(0, 2, 1, false, 2);
        x.declare(2, 3, 1, true, 2);
        x.store(0, 0);
        x.store(1, 0);
        Check.due("a member of two", 2, () -> x.store(2, 5));
        Check.due("another", 3, () -> x.store(2, 6));
        Check.order("last", x, 0, 0, 2, 3);
        Check.order("first", x, 1, 1, 3, 2);
        Check.order("manual", x, 0, 2);
        Check.due("a member of a member", 4, () -> x.store(3, 1));
        Check.order("in the current set", x, 3, 3, 4);
        Check.order("not in another", x, 2, 3);
        x.find(2);
        Check.due("into the other one", 5, () -> x.store(3, 2));
        Check.order("in the other one", x, 2, 3, 5);
        Check.due("another owner", 6, () -> x.store(0, 1));
        Check.due("a member of its set", 7, () -> x.store(2, 9));
        Check.order("the new owner's", x, 6, 0, 7);
        Check.order("the same second owner's", x, 1, 1, 7, 3, 2);
    }

    private static void noCurrentSet() {
        NetworkDatabase x = new NetworkDatabase();
        x.declare(0, 1, 1, true, 2);
        x.declare(2, 1, 1, true, 2);
        x.declare(3, 1, 1, false, 2);
        Check.state("no owner at all", () -> x.store(1, 0));
        Check.argument("wrong and no owner", () -> x.store(1, 1001));
        x.store(0, 0);
        Check.state("one owner of two", () -> x.store(1, 0));
        Check.order("not inserted into the one", x, 0, 0);
        Check.due("nothing stored", 1, x::records);
        Check.currents("nothing changed", x, 0, 0, -1, -1, -1, 0, -1, -1);
        x.store(2, 0);
        Check.due("both owners", 2, () -> x.store(1, 0));
        x.disconnect(1);
        Check.state("the current set is lost", () -> x.store(1, 0));
        x.find(1);
        Check.due("and found again", 3, () -> x.store(1, 0));
    }

    private static void becomesCurrent() {
        NetworkDatabase x = new NetworkDatabase();
        x.declare(0, 1, 1, true, 0);
        x.declare(0, 1, 1, false, 0);
        x.declare(1, 2, 1, false, 0);
        x.store(0, 0);
        Check.currents("the owner", x, 0, 0, -1, -1, -1, 0, 0, -1);
        x.store(1, 0);
        Check.currents("the member", x, 1, 0, 1, -1, -1, 1, 0, 1);
        x.store(2, 0);
        Check.currents("one of no set", x, 2, 0, 1, 2, -1, 1, 0, 1);
        x.store(3, 0);
        Check.currents("one of no set type", x, 3, 0, 1, 2, 3, 1, 0, 1);
    }

    private static void erasedRecords() {
        NetworkDatabase x = new NetworkDatabase();
        x.store(0, 4);
        x.store(1, 5);
        x.find(0);
        x.erase(2);
        Check.due("one is left", 1, x::records);
        Check.index("its type", () -> x.typeOf(0));
        Check.index("its value", () -> x.valueOf(0));
        Check.due("the other's type", 1, () -> x.typeOf(1));
        Check.due("the other's value", 5, () -> x.valueOf(1));
        Check.due("its number is not given again", 2, () -> x.store(0, 6));
        Check.due("two", 2, x::records);
    }
}
