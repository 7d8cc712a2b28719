/** Promises 6, 7 and 8: connect, disconnect, reconnect. */
public final class MembershipTest {
    public static void main(String[] args) {
        connect();
        connectWrong();
        disconnect();
        disconnectWrong();
        reconnect();
        reconnectWrong();
        noSuchSetType();
        Check.end("MembershipTest");
    }

    private static NetworkDatabase manual(int insertion, int retention) {
        NetworkDatabase x = new NetworkDatabase();
        x.declare(0, 1, insertion, false, retention);
        x.declare(2, 1, insertion, false, retention);
        return x;
    }

    private static void connect() {
        NetworkDatabase x = manual(1, 0);
        x.store(0, 0);
        x.store(1, 1);
        Check.currents("ahead of it", x, 1, 0, 1, -1, -1, 0, -1);
        Check.due("connect", 1, () -> x.connect(0));
        Check.currents("behind it", x, 1, 0, 1, -1, -1, 1, -1);
        x.store(1, 2);
        Check.due("the current record is a member", 2, () -> x.connect(0));
        Check.order("both", x, 0, 0, 1, 2);
        Check.due("the other set type", -1, () -> x.ownerOf(2, 1));
        x.store(2, 0);
        x.find(1);
        Check.due("a second set type", 1, () -> x.connect(1));
        Check.due("the first owner", 0, () -> x.ownerOf(1, 0));
        Check.due("the second owner", 3, () -> x.ownerOf(1, 1));
        Check.currents("current in both", x, 1, 0, 1, 3, -1, 1, 1);
    }

    private static void connectWrong() {
        NetworkDatabase x = manual(1, 2);
        Check.state("nothing is current", () -> x.connect(0));
        x.store(1, 1);
        Check.state("no current set", () -> x.connect(0));
        x.store(3, 0);
        Check.state("a type of no set", () -> x.connect(0));
        x.store(0, 0);
        Check.state("the owner type", () -> x.connect(0));
        x.find(1);
        Check.state("another type, with a current set", () -> x.connect(0));
        x.find(0);
        Check.due("now", 1, () -> x.connect(0));
        Check.state("a member already", () -> x.connect(0));
        Check.order("once", x, 2, 0, 0);
        x.store(0, 1);
        x.find(0);
        Check.state("a member of another one's", () -> x.connect(0));
        x.erase(0);
        Check.state("the current one was erased", () -> x.connect(0));
        x.store(1, 3);
        Check.state("the current set is none", () -> x.connect(0));
        Check.currents("nothing changed", x, 4, 3, 4, -1, 1, -1, -1);
    }

    private static void disconnect() {
        NetworkDatabase x = manual(1, 2);
        x.store(0, 0);
        for (int record = 1; record < 5; record++) {
            x.store(1, record);
            x.connect(0);
        }
        int[][] left = {{1, 2, 3}, {2, 3}, {2}, {}};
        int[] out = {4, 1, 3, 2};
        for (int step = 0; step < 4; step++) {
            int count = left[step].length;
            x.find(out[step]);
            Check.due("disconnect " + out[step], count, () -> x.disconnect(0));
            Check.order("without " + out[step], x, 0, 0, left[step]);
            Check.due("its owner", -1, () -> x.ownerOf(x.current(), 0));
            Check.currents("its currents", x, out[step], 0, out[step], -1, -1, -1, -1);
        }
        x.store(2, 0);
        x.find(0);
        x.find(1);
        x.connect(0);
        x.connect(1);
        Check.due("of one set type only", 0, () -> x.disconnect(1));
        Check.due("still of the other one", 0, () -> x.ownerOf(1, 0));
        Check.currents("and current there", x, 1, 0, 1, 5, -1, 1, -1);
    }

    private static void disconnectWrong() {
        NetworkDatabase x = manual(1, 2);
        Check.state("nothing is current", () -> x.disconnect(0));
        x.store(0, 0);
        Check.state("an owner", () -> x.disconnect(0));
        x.store(1, 1);
        Check.state("no member", () -> x.disconnect(0));
        x.connect(0);
        Check.state("no member of the other one", () -> x.disconnect(1));
        Check.due("a member", 0, () -> x.disconnect(0));
        Check.state("no member any more", () -> x.disconnect(0));
        for (int retention = 0; retention < 2; retention++) {
            NetworkDatabase y = manual(1, retention);
            y.store(0, 0);
            y.store(1, 1);
            y.connect(0);
            Check.state("retention " + retention, () -> y.disconnect(0));
            Check.order("it stays", y, 0, 0, 1);
            Check.due("and is current", 1, () -> y.currentIn(0));
        }
    }

    private static void reconnect() {
        for (int retention = 1; retention < 3; retention++) {
            NetworkDatabase x = manual(1, retention);
            x.store(0, 0);
            x.store(0, 1);
            x.store(1, 2);
            x.connect(0);
            x.store(1, 3);
            x.connect(0);
            Check.order("at first", x, 1, 0, 2, 3);
            x.find(2);
            Check.due("to the other owner", 1, () -> x.reconnect(0, 0));
            Check.order("the one", x, 0, 0, 2);
            Check.order("the other", x, 1, 0, 3);
            Check.currents("currents", x, 2, 1, 2, -1, -1, 2, -1);
            Check.due("the same owner", 1, () -> x.reconnect(0, 0));
            Check.due("back again", 2, () -> x.reconnect(0, 1));
            Check.order("behind all", x, 1, 0, 3, 2);
            x.find(3);
            Check.due("within its set", 2, () -> x.reconnect(0, 1));
            Check.order("behind all again", x, 1, 0, 2, 3);
            Check.due("the current set", 3, () -> x.currentIn(0));
        }
    }

    private static void reconnectWrong() {
        NetworkDatabase x = manual(1, 2);
        Check.index("no record at all", () -> x.reconnect(0, 0));
        x.store(0, 0);
        Check.state("an owner", () -> x.reconnect(0, 0));
        x.store(1, 1);
        x.store(2, 2);
        x.find(1);
        Check.state("no member", () -> x.reconnect(0, 0));
        int[] noOwners = {-1, 1, 2, 3, 60, Integer.MIN_VALUE, Integer.MAX_VALUE};
        for (int owner : noOwners) {
            Check.index("no member, and owner " + owner, () -> x.reconnect(0, owner));
        }
        x.connect(0);
        for (int owner : noOwners) {
            Check.index("owner " + owner, () -> x.reconnect(0, owner));
        }
        Check.index("an owner of another set type", () -> x.reconnect(1, 0));
        Check.state("no member there", () -> x.reconnect(1, 2));
        Check.order("it stays", x, 0, 0, 1);
        x.store(0, 3);
        x.erase(0);
        Check.state("nothing is current", () -> x.reconnect(0, 0));
        x.find(1);
        Check.index("an erased owner", () -> x.reconnect(0, 3));

        NetworkDatabase y = manual(1, 0);
        y.store(0, 0);
        y.store(1, 1);
        y.connect(0);
        Check.state("fixed", () -> y.reconnect(0, 0));
        Check.index("fixed, and no such owner", () -> y.reconnect(0, 1));
    }

    private static void noSuchSetType() {
        NetworkDatabase x = manual(1, 2);
        int[] none = {-1, 2, 6, Integer.MIN_VALUE, Integer.MAX_VALUE};
        for (int round = 0; round < 2; round++) {
            for (int set : none) {
                Check.index("connect " + set, () -> x.connect(set));
                Check.index("disconnect " + set, () -> x.disconnect(set));
                Check.index("reconnect " + set, () -> x.reconnect(set, 0));
            }
            x.store(0, 0);
        }
    }
}
