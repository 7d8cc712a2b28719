/**
 * "If several exceptions apply, the one that is named first in the throws clause is thrown", and two
 * reasons for the same exception are as one. All that can be asked is looked at ahead and behind.
 */
public final class ReasonsTest {
    private static final String[] WRONG_NUMBERS = {"-1", "greatest", "least"};

    public static void main(String[] args) {
        declare();
        declareWithTwoWrongArguments();
        declareWithTwoWrongStates();
        store();
        storeWithTwoWrongStates();
        modify();
        erase();
        connect();
        connectWithTwoWrongStates();
        disconnect();
        disconnectWithTwoWrongStates();
        reconnectToNoSetType();
        reconnectToNoOwner();
        reconnectWithTwoWrongStates();
        wouldErase();
        recordAndSetType();
        memberAt();
        Check.end("ReasonsTest");
    }

    private static final String[] WRONG_DECLARES = {"declare(-1, 1, 0, true, 0)", "declare(4, 1, 0, true, 0)", "declare(1, -1, 0, true, 0)",
        "declare(1, 4, 0, true, 0)", "declare(2, 2, 0, true, 0)", "declare(0, 1, -1, true, 0)", "declare(0, 1, 5, true, 0)",
        "declare(0, 1, 0, true, -1)", "declare(0, 1, 0, true, 3)"};

    /** declare: IllegalArgumentException ahead of IllegalStateException, each reason of both. */
    private static void declare() {
        new Scene("declare(0, 1, 0, true, 0);".repeat(6)).argument(WRONG_DECLARES);
        new Scene("store(0, 0)").argument(WRONG_DECLARES);
        new Scene("store(0, 0); erase(0)").argument(WRONG_DECLARES);
        new Scene("declare(0, 1, 0, true, 0);".repeat(6) + "store(0, 0)").argument(WRONG_DECLARES);
    }

    private static void declareWithTwoWrongArguments() {
        new Scene("").argument("declare(-1, -1, 0, true, 0)", "declare(4, 4, 0, true, 0)", "declare(4, 0, 5, true, 0)",
            "declare(0, 0, 5, true, 3)", "declare(0, 1, -1, true, 3)", "declare(0, 1, 5, true, -1)", "declare(least, greatest, least, false, greatest)");
    }

    private static void declareWithTwoWrongStates() {
        new Scene("declare(0, 1, 0, true, 0);".repeat(6) + "store(0, 0)").state("declare(0, 1, 0, true, 0)", "declare(2, 3, 4, false, 2)");
    }

    private static final String[] WRONG_STORES = {"store(1, -1001)", "store(1, 1001)", "store(1, least)", "store(1, greatest)",
        "store(-1, 0)", "store(4, 0)", "store(least, 0)", "store(greatest, 0)", "store(4, 1001)", "store(-1, -1001)"};

    /** store: IllegalArgumentException ahead of IllegalStateException, each reason of both. */
    private static void store() {
        new Scene("declare(0, 1, 0, true, 0)").argument(WRONG_STORES);
        new Scene(LimitTest.SIXTY).argument(WRONG_STORES);
        new Scene("declare(2, 1, 0, true, 0);" + "store(0, 0);".repeat(60)).argument(WRONG_STORES);
    }

    private static void storeWithTwoWrongStates() {
        new Scene("declare(2, 1, 0, true, 0);" + "store(0, 0);".repeat(60)).state("store(1, 0)");
    }

    /** modify: IllegalArgumentException ahead of IllegalStateException. */
    private static void modify() {
        String[] wrong = {"modify(-1001)", "modify(1001)", "modify(least)", "modify(greatest)"};
        new Scene("").argument(wrong);
        new Scene("declare(0, 1, 4, true, 2); store(0, 0); store(1, 0); erase(0)").argument(wrong);
    }

    /** erase: IllegalArgumentException ahead of IllegalStateException, each reason of both. */
    private static void erase() {
        String[] wrong = {"erase(-1)", "erase(3)", "erase(least)", "erase(greatest)"};
        new Scene("").argument(wrong);
        new Scene("store(0, 0); erase(0)").argument(wrong);
        new Scene("declare(0, 1, 1, true, 0); store(0, 0); store(1, 0); find(0)").argument(wrong);
    }

    /** A call whose set type is wrong, in a scene that refuses the call with any set type. */
    private static void noSetType(Scene scene, int setTypes, String call) {
        for (String set : WRONG_NUMBERS) {
            scene.index(call.replace("#", set));
        }
        scene.index(call.replace("#", String.valueOf(setTypes)));
    }

    /** connect: IndexOutOfBoundsException ahead of IllegalStateException, each reason of it. */
    private static void connect() {
        String manual = "declare(0, 1, 1, false, 2);";
        noSetType(new Scene(""), 0, "connect(#)");
        noSetType(new Scene(manual), 1, "connect(#)");
        noSetType(new Scene(manual + "store(0, 0)"), 1, "connect(#)");
        noSetType(new Scene(manual + "store(0, 0); store(1, 0); connect(0)"), 1, "connect(#)");
        noSetType(new Scene(manual + "store(1, 0)"), 1, "connect(#)");
    }

    private static void connectWithTwoWrongStates() {
        String manual = "declare(0, 1, 1, false, 2);";
        new Scene(manual).state("connect(0)");
        new Scene(manual + "store(2, 0)").state("connect(0)");
        new Scene(manual + "store(1, 0); erase(0)").state("connect(0)");
    }

    /** disconnect: IndexOutOfBoundsException ahead of IllegalStateException, each reason of it. */
    private static void disconnect() {
        noSetType(new Scene(""), 0, "disconnect(#)");
        noSetType(new Scene("declare(0, 1, 1, true, 2)"), 1, "disconnect(#)");
        noSetType(new Scene("declare(0, 1, 1, true, 2); store(0, 0)"), 1, "disconnect(#)");
        noSetType(new Scene("declare(0, 1, 1, true, 1); store(0, 0); store(1, 0)"), 1, "disconnect(#)");
    }

    private static void disconnectWithTwoWrongStates() {
        for (int retention = 0; retention < 2; retention++) {
            String declare = "declare(0, 1, 1, false, " + retention + ");";
            new Scene(declare).state("disconnect(0)");
            new Scene(declare + "store(0, 0)").state("disconnect(0)");
            new Scene(declare + "store(1, 0)").state("disconnect(0)");
        }
    }

    /** reconnect: IndexOutOfBoundsException for the set type ahead of all, with a right owner and a wrong one. */
    private static void reconnectToNoSetType() {
        noSetType(new Scene(""), 0, "reconnect(#, 0)");
        String[] states = {"declare(0, 1, 1, true, 2); store(0, 0); store(0, 0); erase(0)", "declare(0, 1, 1, true, 2); store(0, 0)",
            "declare(0, 1, 1, true, 0); store(0, 0); store(1, 0)"};
        for (String state : states) {
            noSetType(new Scene(state), 1, "reconnect(#, 0)");
            noSetType(new Scene(state), 1, "reconnect(#, 1)");
            noSetType(new Scene(state), 1, "reconnect(#, -1)");
        }
    }

    /** reconnect: IndexOutOfBoundsException for the owner ahead of IllegalStateException, each reason of it. */
    private static void reconnectToNoOwner() {
        String[] owners = {"reconnect(0, -1)", "reconnect(0, 1)", "reconnect(0, 2)", "reconnect(0, 60)", "reconnect(0, least)", "reconnect(0, greatest)"};
        new Scene("declare(0, 1, 1, true, 2)").index(owners);
        new Scene("declare(0, 1, 1, true, 2); store(0, 0); store(1, 0); erase(0)").index(owners);
        new Scene("declare(0, 1, 1, true, 2); store(0, 0); store(1, 0); find(0)").index(owners);
        new Scene("declare(0, 1, 1, false, 2); store(0, 0); store(1, 0)").index(owners);
        new Scene("declare(0, 1, 1, true, 0); store(0, 0); store(1, 0)").index(owners);
    }

    private static void reconnectWithTwoWrongStates() {
        String fixed = "declare(0, 1, 1, false, 0); store(0, 0);";
        new Scene(fixed).state("reconnect(0, 0)");
        new Scene(fixed + "store(1, 0)").state("reconnect(0, 0)");
        new Scene(fixed + "store(1, 0); erase(0)").state("reconnect(0, 0)");
    }

    /** wouldErase: IndexOutOfBoundsException ahead of IllegalArgumentException. */
    private static void wouldErase() {
        Scene empty = new Scene("");
        Scene erased = new Scene("store(0, 0); store(0, 0); erase(0)");
        for (String way : new String[] {"-1", "3", "least", "greatest"}) {
            empty.index("wouldErase(0, " + way + ")", "wouldErase(-1, " + way + ")");
            erased.argument("wouldErase(0, " + way + ")");
            erased.index("wouldErase(1, " + way + ")", "wouldErase(2, " + way + ")", "wouldErase(-1, " + way + ")",
                "wouldErase(60, " + way + ")", "wouldErase(least, " + way + ")", "wouldErase(greatest, " + way + ")");
        }
    }

    private static void recordAndSetType() {
        Scene scene = new Scene("declare(0, 1, 1, true, 2); store(0, 0); store(1, 0)");
        for (String call : new String[] {"ownerOf", "members", "membersByTable"}) {
            scene.index(call + "(2, 1)", call + "(-1, -1)", call + "(least, greatest)", call + "(greatest, least)");
        }
    }

    private static void memberAt() {
        Scene scene = new Scene("declare(0, 1, 1, true, 2); store(0, 0); store(1, 0)");
        // The place is wrong too, with a wrong record, a wrong set type and a record of another type.
        scene.index("memberAt(2, 0, -1)", "memberAt(0, 1, 1)", "memberAt(1, 0, 1)", "memberAt(2, 1, 1)", "memberAt(-1, -1, -1)");
    }
}
