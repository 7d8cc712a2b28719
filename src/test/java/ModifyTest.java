/** Promise 4: modify. */
public final class ModifyTest {
    public static void main(String[] args) {
        valueBefore();
        wrongCalls();
        sortedAnew();
        sameValueGoesBehindItsEquals();
        severalSetTypes();
        otherInsertionsStay();
        setOfOneMember();
        eachPlaceToEachPlace();
        equalValues();
        edgesOfValues();
        ownerOfASortedSet();
        noMemberOfASortedSet();
        Check.end("ModifyTest");
    }

    private static void valueBefore() {
        NetworkDatabase x = new NetworkDatabase();
        x.store(0, 3);
        x.store(0, 4);
        Check.due("modify", 4, () -> x.modify(-1000));
        Check.due("again", -1000, () -> x.modify(1000));
        Check.due("the value", 1000, () -> x.valueOf(1));
        Check.due("the other's value", 3, () -> x.valueOf(0));
        Check.currents("currents stay", x, 1, 1, -1, -1, -1);
    }

    private static void wrongCalls() {
        NetworkDatabase x = new NetworkDatabase();
        Check.state("no current record", () -> x.modify(0));
        int[] noValues = {-1001, 1001, Integer.MIN_VALUE, Integer.MAX_VALUE};
        for (int value : noValues) {
            Check.argument("no current record and " + value, () -> x.modify(value));
        }
        x.store(0, 3);
        for (int value : noValues) {
            Check.argument("value " + value, () -> x.modify(value));
        }
        Check.due("the value stays", 3, () -> x.valueOf(0));
        x.erase(0);
        Check.state("the current record was erased", () -> x.modify(0));
    }

    private static NetworkDatabase sorted() {
        NetworkDatabase x = new NetworkDatabase();
        x.declare(0, 1, 4, true, 2);
        x.store(0, 50);
        x.store(1, 10);
        x.store(1, 30);
        x.store(1, 20);
        x.store(1, 20);
        return x;
    }

    private static void sortedAnew() {
        NetworkDatabase x = sorted();
        Check.order("at first", x, 0, 0, 1, 3, 4, 2);
        x.find(1);
        Check.due("to the end", 10, () -> x.modify(31));
        Check.order("to the end", x, 0, 0, 3, 4, 2, 1);
        Check.due("behind its equals", 31, () -> x.modify(20));
        Check.order("behind its equals", x, 0, 0, 3, 4, 1, 2);
        Check.due("to the front", 20, () -> x.modify(-5));
        Check.order("to the front", x, 0, 0, 1, 3, 4, 2);
        Check.currents("it is current still", x, 1, 0, 1, -1, -1, 1);
        x.find(0);
        Check.due("the owner's value", 50, () -> x.modify(0));
        Check.order("is of no account", x, 0, 0, 1, 3, 4, 2);
    }

    private static void sameValueGoesBehindItsEquals() {
        NetworkDatabase x = sorted();
        x.find(3);
        Check.due("the value that it had", 20, () -> x.modify(20));
        Check.order("inserted anew", x, 0, 0, 1, 4, 3, 2);
    }

    private static void severalSetTypes() {
        NetworkDatabase x = new NetworkDatabase();
        x.declare(0, 1, 4, true, 2);
        x.declare(2, 1, 4, true, 2);
        x.declare(0, 1, 4, false, 2);
        x.declare(0, 1, 0, true, 2);
        x.store(0, 0);
        x.store(2, 0);
        x.store(1, 1);
        x.store(1, 2);
        x.store(1, 3);
        x.find(2);
        Check.due("in two sorted sets", 1, () -> x.modify(9));
        Check.order("the one", x, 0, 0, 3, 4, 2);
        Check.order("the other", x, 1, 1, 3, 4, 2);
        Check.order("no member", x, 0, 2);
        Check.order("not sorted", x, 0, 3, 4, 3, 2);
    }

    private static void otherInsertionsStay() {
        for (int insertion = 0; insertion < 4; insertion++) {
            NetworkDatabase x = new NetworkDatabase();
            x.declare(0, 1, insertion, false, 2);
            x.store(0, 0);
            for (int record = 1; record < 4; record++) {
                x.store(1, record);
                x.connect(0);
            }
            int[] before = {x.memberAt(0, 0, 0), x.memberAt(0, 0, 1), x.memberAt(0, 0, 2)};
            x.find(2);
            x.modify(99);
            Check.order("insertion " + insertion, x, 0, 0, before);
        }
    }

    private static void setOfOneMember() {
        Scene one = new Scene("declare(0, 1, 4, true, 2); store(0, 0); store(1, 10)");
        for (int value : new int[] {-1000, 9, 10, 11, 1000}) {
            one.due("modify(" + value + ")", 10);
            Scene changed = one.then("modify(" + value + ")");
            changed.ring(0, 0, 1);
            changed.asks("valueOf(1)", value);
            changed.currents(1, 0, 1, -1, -1, 1);
        }
    }

    /** From the first, the middle and the last place to each other one, and to none. */
    private static void eachPlaceToEachPlace() {
        Scene three = new Scene("declare(0, 1, 4, true, 2); store(0, 0); store(1, 10); store(1, 20); store(1, 30)");
        int[] values = {5, 15, 25, 35};
        int[][][] due = {{{1, 2, 3}, {1, 2, 3}, {2, 1, 3}, {2, 3, 1}}, {{2, 1, 3}, {1, 2, 3}, {1, 2, 3}, {1, 3, 2}},
            {{3, 1, 2}, {1, 3, 2}, {1, 2, 3}, {1, 2, 3}}};
        for (int record = 1; record < 4; record++) {
            for (int place = 0; place < 4; place++) {
                three.then("find(" + record + "); modify(" + values[place] + ")").ring(0, 0, due[record - 1][place]);
            }
        }
    }

    /** "inserted anew into the same set (also if the value is the one that it had)": behind all of the same value. */
    private static void equalValues() {
        Scene same = new Scene("declare(0, 1, 4, true, 2); store(0, 0); store(1, 10); store(1, 10); store(1, 10)");
        same.then("find(1); modify(10)").ring(0, 0, 2, 3, 1);
        same.then("find(2); modify(10)").ring(0, 0, 1, 3, 2);
        same.then("find(3); modify(10)").ring(0, 0, 1, 2, 3);
        same.then("find(2)").due("modify(10)", 10);
    }

    private static void edgesOfValues() {
        Scene edges = new Scene("declare(0, 1, 4, true, 2); store(0, 0); store(1, 1000); store(1, -1000); store(1, 0)");
        edges.ring(0, 0, 2, 3, 1);
        edges.then("modify(1000)").ring(0, 0, 2, 1, 3);
        edges.then("modify(-1000)").ring(0, 0, 2, 3, 1);
        edges.then("modify(999)").ring(0, 0, 2, 3, 1);
        edges.then("find(1); modify(-1000)").ring(0, 0, 2, 1, 3);
    }

    /** The owner is no member: its set stays as it is, and so does the set of another owner. */
    private static void ownerOfASortedSet() {
        Scene two = new Scene("declare(0, 1, 4, true, 2); store(0, 5); store(1, 10); store(1, 20); store(0, 6); store(1, 15); find(0)");
        two.due("modify(1000)", 5);
        two.then("modify(1000)").ring(0, 0, 1, 2);
        two.then("modify(1000)").ring(3, 0, 4);
        two.then("find(4); modify(1)").ring(0, 0, 1, 2);
        two.then("find(4); modify(1)").ring(3, 0, 4);
    }

    private static void noMemberOfASortedSet() {
        Scene apart = new Scene("declare(0, 1, 4, false, 2); declare(0, 1, 1, true, 2); store(0, 0); store(1, 10); store(1, 5)");
        apart.then("modify(20)").ring(0, 0);
        apart.then("modify(20)").ring(0, 1, 1, 2);
        apart.then("find(1); modify(1)").ring(0, 1, 1, 2);
        apart.then("modify(20)").asks("ownerOf(2, 0)", -1);
        apart.then("modify(20)").asks("valueOf(1)", 10);
    }
}
