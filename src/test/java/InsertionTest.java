/** The part 'Inserting into a set' of the terms, by store, connect and reconnect (promises 3, 6, 8). */
public final class InsertionTest {
    public static void main(String[] args) {
        first();
        last();
        next();
        prior();
        sorted();
        reconnectCountsAsNoneOfTheSet();
        anotherSetIsCurrent();
        intoAnEmptySet();
        intoASetOfOneMember();
        byEachCurrentRecord();
        byEachValue();
        againIntoTheSameSet();
        againIntoASetOfOneMember();
        intoAnothersSet();
        byRisingNumbersOfSetTypes();
        Check.end("InsertionTest");
    }

    private static NetworkDatabase owner(int insertion) {
        NetworkDatabase x = new NetworkDatabase();
        x.declare(0, 1, insertion, true, 2);
        x.store(0, 0);
        return x;
    }

    private static void first() {
        NetworkDatabase x = owner(0);
        x.store(1, 1);
        x.store(1, 2);
        x.find(1);
        x.store(1, 3);
        Check.order("first", x, 0, 0, 3, 2, 1);
    }

    private static void last() {
        NetworkDatabase x = owner(1);
        x.store(1, 1);
        x.store(1, 2);
        x.find(1);
        x.store(1, 3);
        Check.order("last", x, 0, 0, 1, 2, 3);
    }

    private static void next() {
        NetworkDatabase x = owner(2);
        x.store(1, 1);
        x.store(1, 2);
        Check.order("behind the one before", x, 0, 0, 1, 2);
        x.find(1);
        x.store(1, 3);
        Check.order("behind the first", x, 0, 0, 1, 3, 2);
        x.find(0);
        x.store(1, 4);
        Check.order("behind the owner", x, 0, 0, 4, 1, 3, 2);
        x.find(2);
        x.store(1, 5);
        Check.order("behind the last", x, 0, 0, 4, 1, 3, 2, 5);
    }

    private static void prior() {
        NetworkDatabase x = owner(3);
        x.store(1, 1);
        x.store(1, 2);
        Check.order("ahead of the one before", x, 0, 0, 2, 1);
        x.find(1);
        x.store(1, 3);
        Check.order("ahead of the last", x, 0, 0, 2, 3, 1);
        x.find(0);
        x.store(1, 4);
        Check.order("ahead of the owner", x, 0, 0, 2, 3, 1, 4);
        x.find(2);
        x.store(1, 5);
        Check.order("ahead of the first", x, 0, 0, 5, 2, 3, 1, 4);
    }

    private static void sorted() {
        NetworkDatabase x = owner(4);
        int[] values = {5, 3, 5, -1000, 1000, 4, 3, 1000};
        for (int value : values) {
            x.store(1, value);
        }
        Check.order("sorted", x, 0, 0, 4, 2, 7, 6, 1, 3, 5, 8);
        x.find(6);
        x.disconnect(0);
        x.find(0);
        x.find(6);
        Check.due("connect", 8, () -> x.connect(0));
        Check.order("sorted by connect", x, 0, 0, 4, 2, 7, 6, 1, 3, 5, 8);
        x.find(2);
        Check.due("reconnect", 8, () -> x.reconnect(0, 0));
        Check.order("behind its equal", x, 0, 0, 4, 7, 2, 6, 1, 3, 5, 8);
    }

    private static void reconnectCountsAsNoneOfTheSet() {
        int[][] due = {{3, 1, 2, 4}, {1, 2, 4, 3}, {3, 1, 2, 4}, {1, 2, 4, 3}};
        for (int insertion = 0; insertion < 4; insertion++) {
            NetworkDatabase x = new NetworkDatabase();
            x.declare(0, 1, insertion, false, 1);
            x.store(0, 0);
            int[] records = {1, 2, 3, 4};
            for (int record : records) {
                x.store(1, record);
            }
            x.find(0);
            // At the front the last one connected is the first one, so that these go in backwards.
            boolean backwards = insertion == 0 || insertion == 3;
            for (int step = 0; step < 4; step++) {
                x.find(records[backwards ? 3 - step : step]);
                x.connect(0);
            }
            Check.order("at first, insertion " + insertion, x, 0, 0, 1, 2, 3, 4);
            x.find(3);
            x.reconnect(0, 0);
            Check.order("anew, insertion " + insertion, x, 0, 0, due[insertion]);
            x.store(0, 9);
            x.find(1);
            x.reconnect(0, 5);
            x.find(2);
            x.reconnect(0, 5);
            int ahead = insertion == 0 || insertion == 2 ? 2 : 1;
            Check.order("another's, insertion " + insertion, x, 5, 0, ahead, 3 - ahead);
        }
    }

    private static void anotherSetIsCurrent() {
        NetworkDatabase x = new NetworkDatabase();
        x.declare(0, 1, 2, true, 2);
        x.declare(0, 1, 3, true, 2);
        x.store(0, 0);
        x.store(1, 1);
        x.store(0, 2);
        Check.due("into the new owner's set", 3, () -> x.store(1, 3));
        Check.due("by a member of the first one's", 1, () -> x.find(1));
        Check.due("into the first one's set", 4, () -> x.store(1, 4));
        Check.order("next", x, 0, 0, 1, 4);
        Check.order("prior", x, 0, 1, 4, 1);
        Check.order("the new one's next", x, 2, 0, 3);
        Check.order("the new one's prior", x, 2, 1, 3);
    }

    private static String declare(int insertion, boolean automatic) {
        return "declare(0, 1, " + insertion + ", " + automatic + ", 2);";
    }

    /** All five insertions into a set that is empty, by store, connect and reconnect. */
    private static void intoAnEmptySet() {
        for (int insertion = 0; insertion < 5; insertion++) {
            new Scene(declare(insertion, true) + "store(0, 0); store(1, 5)").ring(0, 0, 1);
            new Scene(declare(insertion, false) + "store(0, 0); store(1, 5); connect(0)").ring(0, 0, 1);
            new Scene(declare(insertion, true) + "store(0, 0); store(1, 5); reconnect(0, 0)").ring(0, 0, 1);
            Scene moved = new Scene(declare(insertion, true) + "store(0, 0); store(0, 0); store(1, 5); reconnect(0, 0)");
            moved.ring(0, 0, 2);
            moved.ring(1, 0);
        }
    }

    /** "with the insertion 0 ahead of all members, with 1 behind all", 2 and 3 by the owner and by the one member. */
    private static void intoASetOfOneMember() {
        boolean[] aheadByOwner = {true, false, true, false, false};
        boolean[] aheadByMember = {true, false, false, true, false};
        for (int insertion = 0; insertion < 5; insertion++) {
            Scene stored = new Scene(declare(insertion, true) + "store(0, 0); store(1, 5)");
            stored.then("find(0); store(1, 5)").ring(0, 0, pair(aheadByOwner[insertion]));
            stored.then("find(1); store(1, 5)").ring(0, 0, pair(aheadByMember[insertion]));
            Scene manual = new Scene(declare(insertion, false) + "store(0, 0); store(1, 5); connect(0); store(1, 5)");
            manual.then("find(0); find(2); connect(0)").ring(0, 0, pair(aheadByOwner[insertion]));
            manual.then("find(1); find(2); connect(0)").ring(0, 0, pair(aheadByMember[insertion]));
        }
    }

    private static int[] pair(boolean ahead) {
        return ahead ? new int[] {2, 1} : new int[] {1, 2};
    }

    /** The members 1, 2, 3 in this order, whatever the insertion is; with 4 of a value, if it is to be connected. */
    private static Scene three(int insertion, boolean automatic, String fourth) {
        String out = automatic ? "find(1); disconnect(0); find(2); disconnect(0); find(3); disconnect(0);" : fourth;
        // At the front the last one connected is the first one, so that these go in backwards.
        String in = insertion == 0 || insertion == 3 ? "find(3); connect(0); find(2); connect(0); find(1); connect(0);"
            : "find(1); connect(0); find(2); connect(0); find(3); connect(0);";
        return new Scene(declare(insertion, automatic) + "store(0, 0); store(1, 10); store(1, 20); store(1, 30);" + out + "find(0);" + in);
    }

    /** "with 2 behind the current record of the set type, with 3 ahead of it (the owner being ahead of the first member, and behind the last one)". */
    private static void byEachCurrentRecord() {
        int[] first = {4, 1, 2, 3};
        int[] second = {1, 4, 2, 3};
        int[] third = {1, 2, 4, 3};
        int[] last = {1, 2, 3, 4};
        int[][][] due = {{first, first, first, first}, {last, last, last, last}, {first, second, third, last}, {last, first, second, third}};
        for (int insertion = 0; insertion < 4; insertion++) {
            Scene automatic = three(insertion, true, "");
            Scene manual = three(insertion, false, "store(1, 15);");
            automatic.ring(0, 0, 1, 2, 3);
            manual.ring(0, 0, 1, 2, 3);
            for (int current = 0; current < 4; current++) {
                automatic.then("find(" + current + "); store(1, 15)").ring(0, 0, due[insertion][current]);
                manual.then("find(" + current + "); find(4); connect(0)").ring(0, 0, due[insertion][current]);
            }
        }
    }

    /** "with 4 ahead of the first member with a greater value, or behind all", whichever record is the current one. */
    private static void byEachValue() {
        int[] values = {-1000, 9, 10, 11, 19, 20, 21, 29, 30, 31, 1000};
        int[] places = {0, 0, 1, 1, 1, 2, 2, 2, 3, 3, 3};
        int[][] due = {{4, 1, 2, 3}, {1, 4, 2, 3}, {1, 2, 4, 3}, {1, 2, 3, 4}};
        for (int place = 0; place < values.length; place++) {
            Scene automatic = three(4, true, "");
            Scene manual = three(4, false, "store(1, " + values[place] + ");");
            for (int current = 0; current < 4; current++) {
                automatic.then("find(" + current + "); store(1, " + values[place] + ")").ring(0, 0, due[places[place]]);
                manual.then("find(" + current + "); find(4); connect(0)").ring(0, 0, due[places[place]]);
            }
        }
        new Scene(declare(4, true) + "store(0, 0); store(1, 1000); store(1, 1000); store(1, -1000); store(1, -1000)").ring(0, 0, 3, 4, 1, 2);
        // The owner's value is of no account.
        new Scene("declare(0, 1, 4, true, 2); store(0, 999); store(1, 5); store(1, 5); store(1, 4)").ring(0, 0, 3, 1, 2);
    }

    /** "if it is none of this set (as a record that was just taken out of it to be inserted), 2 is as 0, and 3 as 1". */
    private static void againIntoTheSameSet() {
        int[][] toTheFront = {{1, 2, 3}, {2, 1, 3}, {3, 1, 2}};
        int[][] toTheEnd = {{2, 3, 1}, {1, 3, 2}, {1, 2, 3}};
        for (int insertion = 0; insertion < 4; insertion++) {
            int[][] due = insertion % 2 == 0 ? toTheFront : toTheEnd;
            for (int record = 1; record < 4; record++) {
                Scene again = three(insertion, false, "").then("find(" + record + "); reconnect(0, 0)");
                again.ring(0, 0, due[record - 1]);
                again.due("currentIn(0)", record);
                again.due("current()", record);
            }
        }
        for (int record = 1; record < 4; record++) {
            three(4, false, "").then("find(" + record + "); reconnect(0, 0)").ring(0, 0, 1, 2, 3);
        }
        new Scene(declare(4, true) + "store(0, 0); store(1, 5); store(1, 5); store(1, 5); find(1); reconnect(0, 0)").ring(0, 0, 2, 3, 1);
    }

    private static void againIntoASetOfOneMember() {
        for (int insertion = 0; insertion < 5; insertion++) {
            Scene one = new Scene(declare(insertion, true) + "store(0, 0); store(1, 5)");
            one.due("reconnect(0, 0)", 1);
            one.then("reconnect(0, 0)").ring(0, 0, 1);
            one.then("reconnect(0, 0); reconnect(0, 0)").ring(0, 0, 1);
        }
    }

    /** The same into the set of another owner, whose members are none of them the current record. */
    private static void intoAnothersSet() {
        for (int insertion = 0; insertion < 5; insertion++) {
            Scene scene = three(insertion, false, "").then("store(0, 0); store(1, 15); connect(0)");
            Scene moved = scene.then("reconnect(0, 0)");
            int[][] due = {{5, 1, 2, 3}, {1, 2, 3, 5}, {5, 1, 2, 3}, {1, 2, 3, 5}, {1, 5, 2, 3}};
            moved.ring(0, 0, due[insertion]);
            moved.ring(4, 0);
            Scene back = scene.then("find(2); reconnect(0, 4)");
            back.ring(0, 0, 1, 3);
            back.ring(4, 0, insertion % 2 == 0 && insertion < 4 ? new int[] {2, 5} : new int[] {5, 2});
        }
    }

    /** "By rising numbers of set types, it is inserted into the current set of each automatic set type whose member type it has." */
    private static void byRisingNumbersOfSetTypes() {
        Scene scene = new Scene("declare(0, 1, 0, true, 2); declare(2, 1, 1, true, 2); declare(0, 1, 2, false, 2); declare(0, 1, 3, true, 2);"
            + "declare(0, 1, 4, true, 2); declare(0, 3, 1, true, 2); store(0, 0); store(2, 0); store(1, 5); store(1, 4); store(1, 6)");
        scene.ring(0, 0, 4, 3, 2);
        scene.ring(1, 1, 2, 3, 4);
        scene.ring(0, 2);
        scene.ring(0, 3, 4, 3, 2);
        scene.ring(0, 4, 3, 2, 4);
        scene.ring(0, 5);
    }
}
