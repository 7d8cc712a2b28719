/** The part 'Inserting into a set' of the terms, by store, connect and reconnect (promises 3, 6, 8). */
public final class InsertionTest {
    public static void main(String[] args) {
        first();
        last();
        next();
        prior();
        sorted();
        reconnectCountsAsNoneOfTheSet();
        anotherSetIsCurrent();
        Check.end("InsertionTest");
    }

    private static NetworkDatabase owner(int insertion) {
        NetworkDatabase x = new NetworkDatabase();
        x.declare(0, 1, insertion, true, 2);
        x.store(0, 0);
        return x;
    }

    private static void first() {
        NetworkDatabase x = owner(0);
        x.store(1, 1);
        x.store(1, 2);
        x.find(1);
        x.store(1, 3);
        Check.order("first", x, 0, 0, 3, 2, 1);
    }

    private static void last() {
        NetworkDatabase x = owner(1);
        x.store(1, 1);
        x.store(1, 2);
        x.find(1);
        x.store(1, 3);
        Check.order("last", x, 0, 0, 1, 2, 3);
    }

    private static void next() {
        NetworkDatabase x = owner(2);
        x.store(1, 1);
        x.store(1, 2);
        Check.order("behind the one before", x, 0, 0, 1, 2);
        x.find(1);
        x.store(1, 3);
        Check.order("behind the first", x, 0, 0, 1, 3, 2);
        x.find(0);
        x.store(1, 4);
        Check.order("behind the owner", x, 0, 0, 4, 1, 3, 2);
        x.find(2);
        x.store(1, 5);
        Check.order("behind the last", x, 0, 0, 4, 1, 3, 2, 5);
    }

    private static void prior() {
        NetworkDatabase x = owner(3);
        x.store(1, 1);
        x.store(1, 2);
        Check.order("ahead of the one before", x, 0, 0, 2, 1);
        x.find(1);
        x.store(1, 3);
        Check.order("ahead of the last", x, 0, 0, 2, 3, 1);
        x.find(0);
        x.store(1, 4);
        Check.order("ahead of the owner", x, 0, 0, 2, 3, 1, 4);
        x.find(2);
        x.store(1, 5);
        Check.order("ahead of the first", x, 0, 0, 5, 2, 3, 1, 4);
    }

    private static void sorted() {
        NetworkDatabase x = owner(4);
        int[] values = {5, 3, 5, -1000, 1000, 4, 3, 1000};
        for (int value : values) {
            x.store(1, value);
        }
        Check.order("sorted", x, 0, 0, 4, 2, 7, 6, 1, 3, 5, 8);
        x.find(6);
        x.disconnect(0);
        x.find(0);
        x.find(6);
        Check.due("connect", 8, () -> x.connect(0));
        Check.order("sorted by connect", x, 0, 0, 4, 2, 7, 6, 1, 3, 5, 8);
        x.find(2);
        Check.due("reconnect", 8, () -> x.reconnect(0, 0));
        Check.order("behind its equal", x, 0, 0, 4, 7, 2, 6, 1, 3, 5, 8);
    }

    private static void reconnectCountsAsNoneOfTheSet() {
        int[][] due = {{3, 1, 2, 4}, {1, 2, 4, 3}, {3, 1, 2, 4}, {1, 2, 4, 3}};
        for (int insertion = 0; insertion < 4; insertion++) {
            NetworkDatabase x = new NetworkDatabase();
            x.declare(0, 1, insertion, false, 1);
            x.store(0, 0);
            int[] records = {1, 2, 3, 4};
            for (int record : records) {
                x.store(1, record);
            }
            x.find(0);
            // At the front the last one connected is the first one, so that these go in backwards.
            boolean backwards = insertion == 0 || insertion == 3;
            for (int step = 0; step < 4; step++) {
                x.find(records[backwards ? 3 - step : step]);
                x.connect(0);
            }
            Check.order("at first, insertion " + insertion, x, 0, 0, 1, 2, 3, 4);
            x.find(3);
            x.reconnect(0, 0);
            Check.order("anew, insertion " + insertion, x, 0, 0, due[insertion]);
            x.store(0, 9);
            x.find(1);
            x.reconnect(0, 5);
            x.find(2);
            x.reconnect(0, 5);
            int ahead = insertion == 0 || insertion == 2 ? 2 : 1;
            Check.order("another's, insertion " + insertion, x, 5, 0, ahead, 3 - ahead);
        }
    }

    private static void anotherSetIsCurrent() {
        NetworkDatabase x = new NetworkDatabase();
        x.declare(0, 1, 2, true, 2);
        x.declare(0, 1, 3, true, 2);
        x.store(0, 0);
        x.store(1, 1);
        x.store(0, 2);
        Check.due("into the new owner's set", 3, () -> x.store(1, 3));
        Check.due("by a member of the first one's", 1, () -> x.find(1));
        Check.due("into the first one's set", 4, () -> x.store(1, 4));
        Check.order("next", x, 0, 0, 1, 4);
        Check.order("prior", x, 0, 1, 4, 1);
        Check.order("the new one's next", x, 2, 0, 3);
        Check.order("the new one's prior", x, 2, 1, 3);
    }
}
