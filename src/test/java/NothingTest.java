/**
 * What the calls return where there is nothing: "they return -1 if there is none, and change nothing
 * then". All that can be asked is looked at ahead of each such answer and behind it.
 */
public final class NothingTest {
    /** The owner 0 with the members 1, 2, 3 and the owner 4 without any; 5 is of no set. */
    private static final String FILLED = "declare(0, 1, 1, false, 2); store(0, 50); store(1, 10); connect(0); store(1, 20); connect(0);"
        + "store(1, 10); connect(0); store(0, 60); store(1, 70);";

    private static final String[] OF_THE_CURRENT_SET = {"findEnd(0, false)", "findEnd(0, true)", "findNext(0, false)", "findNext(0, true)",
        "findOwner(0)", "findValue(0, 10)", "findValue(0, 0)", "findValue(0, -1)"};

    public static void main(String[] args) {
        newObject();
        find();
        findOf();
        findOfBehindTheLast();
        noCurrentSetYet();
        noCurrentSetAnyMore();
        findEnd();
        findNext();
        findOwner();
        findValue();
        noCurrents();
        noOwner();
        noMembers();
        wouldErase();
        Check.end("NothingTest");
    }

    /** "No set types and no records", "at first all are none". */
    private static void newObject() {
        Scene fresh = new Scene("");
        fresh.asks("setTypes()", 0);
        fresh.asks("records()", 0);
        fresh.none("current()", "currentOf(0)", "currentOf(1)", "currentOf(2)", "currentOf(3)", "find(0)");
        for (int type = 0; type < 4; type++) {
            fresh.none("findOf(" + type + ", true)", "findOf(" + type + ", false)");
        }
        fresh.index("currentIn(0)", "typeOf(0)", "valueOf(0)", "wouldErase(0, 0)");
        Scene declared = new Scene("declare(0, 1, 1, true, 2); declare(1, 2, 0, false, 0)");
        declared.currents(-1, -1, -1, -1, -1, -1, -1);
        declared.asks("records()", 0);
        declared.index("ownerOf(0, 0)", "members(0, 0)", "membersByTable(0, 0)", "memberAt(0, 0, 0)");
    }

    /** find: "-1 if there is none, or it was erased". */
    private static void find() {
        Scene filled = new Scene(FILLED);
        filled.due("find(5)", 5);
        filled.none("find(6)", "find(-1)", "find(60)");
        Scene erased = filled.then("find(2); erase(0)");
        erased.none("find(2)", "find(6)");
        erased.due("find(1)", 1);
        erased.due("find(3)", 3);
        filled.then("find(0); erase(2)").none("find(0)", "find(1)", "find(2)", "find(3)");
        filled.then("find(0); erase(2)").due("find(4)", 4);
    }

    /** findOf: no record of the type, or none any more; "the first one, if that is none". */
    private static void findOf() {
        Scene filled = new Scene(FILLED);
        filled.none("findOf(2, true)", "findOf(2, false)", "findOf(3, true)", "findOf(3, false)");
        Scene erased = filled.then("find(0); erase(1); find(4); erase(0)");
        erased.none("findOf(0, true)", "findOf(0, false)");
        Scene one = new Scene("store(3, 0); store(2, 0); erase(0)");
        one.none("findOf(2, true)", "findOf(2, false)", "findOf(3, false)");
        one.due("findOf(3, true)", 0);
        Scene currentErased = new Scene("store(1, 0); store(1, 0); store(1, 0); find(1); erase(0)");
        currentErased.due("findOf(1, false)", 0);
        currentErased.due("findOf(1, true)", 0);
        currentErased.then("findOf(1, false)").due("findOf(1, false)", 2);
        currentErased.then("findOf(1, false); findOf(1, false)").none("findOf(1, false)");
        new Scene("store(1, 0); store(1, 0); find(0); erase(0)").due("findOf(1, true)", 1);
        new Scene("store(1, 0); store(1, 0); find(0); erase(0)").due("findOf(1, false)", 1);
    }

    /** findOf: "the one behind the current record of the type", and none behind the last one. */
    private static void findOfBehindTheLast() {
        Scene row = new Scene("store(1, 0); store(0, 0); store(1, 0); store(0, 0); store(0, 0); find(1)");
        row.due("findOf(0, false)", 3);
        row.due("findOf(0, true)", 1);
        row.then("find(3)").due("findOf(0, false)", 4);
        row.then("find(3)").due("findOf(0, true)", 1);
        row.then("find(4)").none("findOf(0, false)");
        row.then("find(4)").due("findOf(0, true)", 1);
        row.then("find(0)").due("findOf(0, false)", 3);
        row.none("findOf(1, false)");
        row.then("find(0)").due("findOf(1, false)", 2);
        Scene sixty = new Scene(LimitTest.SIXTY);
        sixty.none("findOf(1, false)", "findOf(0, false)");
        sixty.due("findOf(1, true)", 1);
        sixty.then("find(58)").due("findOf(1, false)", 59);
        sixty.then("erase(0); find(58)").none("findOf(1, false)");
    }

    /** "also -1 if there is no current set": where there was none yet. */
    private static void noCurrentSetYet() {
        new Scene("declare(0, 1, 1, false, 2)").none(OF_THE_CURRENT_SET);
        new Scene("declare(0, 1, 1, false, 2); store(1, 10)").none(OF_THE_CURRENT_SET);
        new Scene("declare(0, 1, 1, false, 2); store(2, 10)").none(OF_THE_CURRENT_SET);
        new Scene("declare(0, 1, 1, false, 2); declare(2, 1, 1, false, 2); store(2, 10); store(1, 10); connect(1)").none(OF_THE_CURRENT_SET);
    }

    /** "also -1 if there is no current set": where the current record was taken out or erased. */
    private static void noCurrentSetAnyMore() {
        Scene filled = new Scene(FILLED + "find(2);");
        filled.due("findOwner(0)", 0);
        filled.then("disconnect(0)").none(OF_THE_CURRENT_SET);
        filled.then("disconnect(0); find(5)").none(OF_THE_CURRENT_SET);
        filled.then("disconnect(0); find(1)").due("findOwner(0)", 0);
        filled.then("erase(0)").none(OF_THE_CURRENT_SET);
        filled.then("find(0); erase(1)").none(OF_THE_CURRENT_SET);
        filled.then("find(0); erase(2)").none(OF_THE_CURRENT_SET);
        filled.then("find(0); erase(2); find(4)").due("findOwner(0)", 4);
        filled.then("find(0); erase(1); find(2)").none(OF_THE_CURRENT_SET);
    }

    /** findEnd: the first and the last of three, of one, and none. */
    private static void findEnd() {
        Scene filled = new Scene(FILLED);
        for (int record = 0; record < 4; record++) {
            filled.then("find(" + record + ")").due("findEnd(0, false)", 1);
            filled.then("find(" + record + ")").due("findEnd(0, true)", 3);
        }
        filled.none("findEnd(0, false)", "findEnd(0, true)");
        filled.then("find(4)").none("findEnd(0, false)", "findEnd(0, true)");
        Scene one = filled.then("find(4); find(5); connect(0)");
        one.due("findEnd(0, false)", 5);
        one.due("findEnd(0, true)", 5);
        one.then("find(4)").due("findEnd(0, false)", 5);
        one.then("find(4)").due("findEnd(0, true)", 5);
        one.then("erase(0); find(4)").none("findEnd(0, false)", "findEnd(0, true)");
    }

    /** findNext: "-1 if it would be the owner"; "next to the owner is the first member, or the last one". */
    private static void findNext() {
        Scene filled = new Scene(FILLED);
        filled.then("find(0)").due("findNext(0, false)", 1);
        filled.then("find(0)").due("findNext(0, true)", 3);
        filled.then("find(1)").due("findNext(0, false)", 2);
        filled.then("find(1)").none("findNext(0, true)");
        filled.then("find(2)").due("findNext(0, false)", 3);
        filled.then("find(2)").due("findNext(0, true)", 1);
        filled.then("find(3)").none("findNext(0, false)");
        filled.then("find(3)").due("findNext(0, true)", 2);
        filled.then("find(4)").none("findNext(0, false)", "findNext(0, true)");
        Scene one = filled.then("find(4); find(5); connect(0)");
        one.none("findNext(0, false)", "findNext(0, true)");
        one.then("find(4)").due("findNext(0, false)", 5);
        one.then("find(4)").due("findNext(0, true)", 5);
        // The current record of the set type counts, whichever the run unit is.
        filled.then("find(1); find(5)").due("findNext(0, false)", 2);
        filled.then("find(3); find(5)").none("findNext(0, false)");
    }

    /** findOwner: of an owner and of each member, also where the set is empty. */
    private static void findOwner() {
        Scene filled = new Scene(FILLED);
        for (int record = 0; record < 4; record++) {
            filled.then("find(" + record + ")").due("findOwner(0)", 0);
        }
        filled.then("find(4)").due("findOwner(0)", 4);
        filled.then("find(4); find(5); connect(0)").due("findOwner(0)", 4);
        filled.then("find(2); find(5)").due("findOwner(0)", 0);
    }

    /** findValue: "the first member with a value", "from the first member on", and none. */
    private static void findValue() {
        Scene filled = new Scene(FILLED);
        for (int record = 0; record < 4; record++) {
            Scene found = filled.then("find(" + record + ")");
            found.due("findValue(0, 10)", 1);
            found.due("findValue(0, 20)", 2);
            // The owner's value, another owner's, and one of no set.
            found.none("findValue(0, 50)", "findValue(0, 60)", "findValue(0, 70)", "findValue(0, 11)", "findValue(0, 9)");
        }
        filled.none("findValue(0, 10)", "findValue(0, 60)", "findValue(0, 70)");
        filled.then("find(1); erase(0); find(0)").due("findValue(0, 10)", 3);
        filled.then("find(3); disconnect(0); find(1); disconnect(0); find(0)").none("findValue(0, 10)");
        Scene one = filled.then("find(4); find(5); connect(0)");
        one.due("findValue(0, 70)", 5);
        one.none("findValue(0, 10)", "findValue(0, 60)");
        one.then("modify(71); find(4)").none("findValue(0, 70)");
        one.then("modify(71); find(4)").due("findValue(0, 71)", 5);
    }

    /** current, currentOf and currentIn: "-1 if there is none". */
    private static void noCurrents() {
        Scene one = new Scene("declare(0, 1, 1, false, 2); declare(2, 3, 1, false, 2); store(0, 0)");
        one.currents(0, 0, -1, -1, -1, 0, -1);
        one.none("currentOf(1)", "currentOf(2)", "currentOf(3)", "currentIn(1)");
        one.then("erase(0)").none("current()", "currentOf(0)", "currentIn(0)", "currentIn(1)");
    }

    /** ownerOf: "-1 if it is no member of such a set". */
    private static void noOwner() {
        Scene filled = new Scene("declare(2, 1, 1, false, 2);" + FILLED.replace("connect(0)", "connect(1)").replace("declare(0, 1, 1, false, 2);",
            "declare(0, 1, 1, false, 2); declare(0, 1, 1, false, 2);"));
        filled.asks("ownerOf(1, 1)", 0);
        filled.none("ownerOf(0, 1)", "ownerOf(4, 1)", "ownerOf(5, 1)", "ownerOf(1, 0)", "ownerOf(1, 2)", "ownerOf(0, 0)", "ownerOf(0, 2)");
        filled.then("find(2); disconnect(1)").none("ownerOf(2, 1)");
        filled.then("find(0); erase(1)").none("ownerOf(1, 1)", "ownerOf(2, 1)", "ownerOf(3, 1)");
    }

    /** members and membersByTable: "-1 if it does not have the owner type", 0 for an empty set. */
    private static void noMembers() {
        for (String call : new String[] {"members", "membersByTable"}) {
            Scene filled = new Scene(FILLED + "store(2, 0); store(3, 0)");
            filled.asks(call + "(0, 0)", 3);
            filled.asks(call + "(4, 0)", 0);
            filled.none(call + "(1, 0)", call + "(5, 0)", call + "(6, 0)", call + "(7, 0)");
            filled.then("find(5); find(4); find(5); connect(0)").asks(call + "(4, 0)", 1);
            filled.then("find(1); disconnect(0); find(2); disconnect(0); find(3); disconnect(0)").asks(call + "(0, 0)", 0);
        }
    }

    /** wouldErase: "-1 if way is 0 and a set that it owns has members". */
    private static void wouldErase() {
        Scene filled = new Scene(FILLED);
        filled.none("wouldErase(0, 0)");
        filled.asks("wouldErase(0, 1)", 1);
        filled.asks("wouldErase(0, 2)", 4);
        for (int way = 0; way < 3; way++) {
            filled.asks("wouldErase(1, " + way + ")", 1);
            filled.asks("wouldErase(4, " + way + ")", 1);
            filled.asks("wouldErase(5, " + way + ")", 1);
        }
        filled.then("find(5); find(4); find(5); connect(0)").none("wouldErase(4, 0)");
    }
}
