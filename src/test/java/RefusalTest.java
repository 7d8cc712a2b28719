/**
 * Each reason to refuse that the 'Throws' sentences name beside the ranges (for those see RangeTest),
 * alone: "A call that throws an exception changes nothing", so that all that can be asked is looked at
 * ahead of each refused call and behind it. Ahead of a reason stands, where there is one, the call that
 * is just not refused.
 */
public final class RefusalTest {
    public static void main(String[] args) {
        storeWithoutCurrentSet();
        storeWithCurrentSetLost();
        storeWhereNoneIsWanted();
        modifyWithoutRunUnit();
        eraseWithoutRunUnit();
        eraseAloneWithMembers();
        eraseAloneWithoutMembers();
        connectWithoutRunUnit();
        connectOfAnotherType();
        connectOfAMember();
        connectWithoutCurrentSet();
        disconnectWithoutRunUnit();
        disconnectOfNoMember();
        disconnectByRetention();
        reconnectWithoutRunUnit();
        reconnectOfNoMember();
        reconnectByRetention();
        memberAtOfNoOwner();
        runUnitLost();
        Check.end("RefusalTest");
    }

    /** store: "or an automatic set type whose member type it has has no current record". */
    private static void storeWithoutCurrentSet() {
        Scene alone = new Scene("declare(0, 1, 1, true, 2)");
        alone.state("store(1, 5)", "store(1, -1000)", "store(1, 1000)");
        alone.then("store(0, 4)").due("store(1, 5)", 1);
        Scene two = new Scene("declare(0, 1, 1, true, 2); declare(2, 1, 1, true, 2)");
        two.state("store(1, 5)");
        two.then("store(0, 4)").state("store(1, 5)");
        two.then("store(2, 4)").state("store(1, 5)");
        two.then("store(0, 4); store(2, 4)").due("store(1, 5)", 2);
        Scene last = new Scene("declare(0, 1, 1, true, 2);".repeat(5) + "declare(2, 1, 1, true, 2); store(0, 3); store(3, 3)");
        last.state("store(1, 5)");
        last.then("store(2, 4)").due("store(1, 5)", 3);
    }

    /** The same where the set type had a current record, and has none any more. */
    private static void storeWithCurrentSetLost() {
        Scene pair = new Scene("declare(0, 1, 1, true, 2); store(0, 3); store(1, 4)");
        pair.then("disconnect(0)").state("store(1, 5)");
        pair.then("disconnect(0); find(0)").due("store(1, 5)", 2);
        pair.then("erase(0)").state("store(1, 5)");
        pair.then("erase(0); find(0)").due("store(1, 5)", 2);
        pair.then("find(0); erase(2)").state("store(1, 5)");
        pair.then("find(0); erase(1)").state("store(1, 5)");
        pair.then("find(0); erase(1); find(1)").state("store(1, 5)");
        pair.then("find(0); erase(2); store(0, 3)").due("store(1, 5)", 3);
    }

    /** Not refused: a manual set type, another member type, the owner type, the set of another record. */
    private static void storeWhereNoneIsWanted() {
        Scene manual = new Scene("declare(0, 1, 1, false, 2)");
        manual.due("store(1, 5)", 0);
        Scene automatic = new Scene("declare(0, 1, 1, true, 2)");
        automatic.due("store(0, 5)", 0);
        automatic.due("store(2, 5)", 0);
        automatic.due("store(3, 5)", 0);
        Scene both = new Scene("declare(2, 1, 1, false, 2); declare(0, 1, 1, true, 2); store(0, 1)");
        both.due("store(1, 5)", 1);
    }

    /** modify: "if there is no such current record". */
    private static void modifyWithoutRunUnit() {
        new Scene("").state("modify(0)", "modify(-1000)", "modify(1000)");
        new Scene("declare(0, 1, 4, true, 2)").state("modify(0)");
        new Scene("declare(0, 1, 4, true, 2); store(0, 1); store(1, 5); erase(0)").state("modify(0)", "modify(5)");
        new Scene("store(0, 1)").due("modify(0)", 1);
    }

    /** erase: "if there is no such current record". */
    private static void eraseWithoutRunUnit() {
        new Scene("").state("erase(0)", "erase(1)", "erase(2)");
        new Scene("declare(0, 1, 4, true, 2)").state("erase(0)", "erase(1)", "erase(2)");
        new Scene("declare(0, 1, 4, true, 2); store(0, 1); store(1, 5); erase(0)").state("erase(0)", "erase(1)", "erase(2)");
        new Scene("store(0, 1); store(0, 2); erase(0)").state("erase(0)");
        new Scene("store(0, 1); store(0, 2); erase(0); find(0)").due("erase(0)", 1);
    }

    /** erase: "or way is 0 and a set that it owns has members", of any retention and any set type. */
    private static void eraseAloneWithMembers() {
        for (int retention = 0; retention < 3; retention++) {
            String declare = "declare(0, 1, 1, true, " + retention + ");";
            Scene one = new Scene(declare + "store(0, 3); store(1, 4); find(0)");
            one.state("erase(0)");
            one.asks("wouldErase(0, 0)", -1);
            one.due("erase(1)", retention == 2 ? 1 : 2);
            Scene two = new Scene(declare + "store(0, 3); store(1, 4); store(1, 5); find(0)");
            two.state("erase(0)");
            two.asks("wouldErase(0, 0)", -1);
            String others = "declare(0, 2, 1, false, 0); declare(0, 1, 1, false, 0); declare(2, 3, 1, false, 0);";
            Scene last = new Scene(others + declare + "store(0, 3); store(1, 4); find(0)");
            last.state("erase(0)");
            last.asks("wouldErase(0, 0)", -1);
            Scene member = new Scene("declare(2, 0, 1, true, 2);" + declare + "store(2, 1); store(0, 3); store(1, 4); find(1)");
            member.state("erase(0)");
            member.asks("wouldErase(1, 0)", -1);
            member.asks("wouldErase(0, 0)", -1);
        }
    }

    /** Not refused: what it owns is empty, or empty again, or the members are another record's. */
    private static void eraseAloneWithoutMembers() {
        Scene empty = new Scene("declare(0, 1, 1, true, 0); declare(0, 2, 1, false, 0); store(0, 3)");
        empty.due("erase(0)", 1);
        empty.asks("wouldErase(0, 0)", 1);
        Scene again = new Scene("declare(0, 1, 1, true, 2); store(0, 3); store(1, 4); disconnect(0); find(0)");
        again.due("erase(0)", 1);
        again.asks("wouldErase(0, 0)", 1);
        Scene erased = new Scene("declare(0, 1, 1, true, 0); store(0, 3); store(1, 4); erase(0); find(0)");
        erased.due("erase(0)", 1);
        Scene anothers = new Scene("declare(0, 1, 1, true, 0); store(0, 3); store(0, 4); store(1, 5); find(0)");
        anothers.due("erase(0)", 1);
        anothers.then("find(2)").due("erase(0)", 1);
        anothers.then("find(1)").state("erase(0)");
        Scene gone = new Scene("declare(0, 1, 1, true, 1); store(0, 3); store(0, 4); store(1, 5); reconnect(0, 0); find(1)");
        gone.due("erase(0)", 1);
        gone.then("find(0)").state("erase(0)");
    }

    /** connect: "if there is no such current record". */
    private static void connectWithoutRunUnit() {
        new Scene("declare(0, 1, 1, false, 2)").state("connect(0)");
        Scene lost = new Scene("declare(0, 1, 1, false, 2); store(0, 3); store(1, 4); store(1, 5); erase(0)");
        lost.state("connect(0)");
        lost.then("find(1)").due("connect(0)", 1);
    }

    /** connect: "it does not have the member type". */
    private static void connectOfAnotherType() {
        Scene four = new Scene("declare(1, 2, 1, false, 2); store(0, 0); store(1, 1); store(2, 2); store(3, 3)");
        four.then("find(0)").state("connect(0)");
        four.then("find(1)").state("connect(0)");
        four.then("find(2)").due("connect(0)", 1);
        four.then("find(3)").state("connect(0)");
        Scene other = new Scene("declare(1, 2, 1, false, 2); declare(2, 1, 1, false, 2); store(1, 1); store(2, 2)");
        other.due("connect(0)", 1);
        other.state("connect(1)");
        other.then("find(0)").state("connect(0)");
    }

    /** connect: "it is a member of a set of this type already", of the current set or of another one. */
    private static void connectOfAMember() {
        Scene pair = new Scene("declare(0, 1, 1, false, 2); declare(0, 1, 1, false, 2); store(0, 3); store(1, 4)");
        pair.due("connect(0)", 1);
        Scene member = pair.then("connect(0)");
        member.state("connect(0)");
        member.due("connect(1)", 1);
        member.then("connect(1)").state("connect(0)", "connect(1)");
        member.then("disconnect(0); find(0); find(1)").due("connect(0)", 1);
        Scene another = member.then("store(0, 5); find(1)");
        another.state("connect(0)");
        another.then("reconnect(0, 2)").state("connect(0)");
        new Scene("declare(0, 1, 1, true, 2); store(0, 3); store(1, 4)").state("connect(0)");
    }

    /** connect: "or the set type has no current record". */
    private static void connectWithoutCurrentSet() {
        Scene never = new Scene("declare(0, 1, 1, false, 2); declare(2, 1, 1, false, 2); store(1, 4)");
        never.state("connect(0)", "connect(1)");
        Scene ofTheOther = never.then("store(2, 5); find(0)");
        ofTheOther.state("connect(0)");
        ofTheOther.due("connect(1)", 1);
        Scene pair = new Scene("declare(0, 1, 1, false, 2); store(0, 3); store(1, 4); connect(0); store(1, 5); find(1)");
        pair.then("disconnect(0)").state("connect(0)");
        pair.then("disconnect(0); find(2)").state("connect(0)");
        pair.then("disconnect(0); find(0); find(2)").due("connect(0)", 1);
        pair.then("erase(0); find(2)").state("connect(0)");
        pair.then("find(0); erase(1); find(1)").state("connect(0)");
        pair.then("find(0); erase(1); store(0, 6); find(1)").due("connect(0)", 1);
    }

    /** disconnect: "if there is no such current record". */
    private static void disconnectWithoutRunUnit() {
        new Scene("declare(0, 1, 1, true, 2)").state("disconnect(0)");
        Scene lost = new Scene("declare(0, 1, 1, true, 2); store(0, 3); store(1, 4); store(1, 5); erase(0)");
        lost.state("disconnect(0)");
        lost.then("find(1)").due("disconnect(0)", 0);
    }

    /** disconnect: "it is no member of a set of this type". */
    private static void disconnectOfNoMember() {
        Scene four = new Scene("declare(1, 2, 1, true, 2); store(0, 0); store(1, 1); store(2, 2); store(3, 3)");
        four.then("find(0)").state("disconnect(0)");
        four.then("find(1)").state("disconnect(0)");
        four.then("find(2)").due("disconnect(0)", 0);
        four.then("find(2); disconnect(0)").state("disconnect(0)");
        four.then("find(3)").state("disconnect(0)");
        Scene one = new Scene("declare(0, 1, 1, true, 2); declare(0, 1, 1, false, 2); store(0, 3); store(1, 4)");
        one.state("disconnect(1)");
        one.due("disconnect(0)", 0);
        one.then("find(0)").state("disconnect(0)", "disconnect(1)");
        one.then("find(0); erase(1); find(1)").state("disconnect(0)");
    }

    /** disconnect: "or the retention is not 2". */
    private static void disconnectByRetention() {
        for (int retention = 0; retention < 2; retention++) {
            String declare = "declare(0, 1, 1, true, " + retention + "); declare(0, 1, 1, false, " + retention + ");";
            Scene one = new Scene(declare + "store(0, 3); store(1, 4)");
            one.state("disconnect(0)");
            one.then("connect(1)").state("disconnect(0)", "disconnect(1)");
            one.then("store(1, 5)").state("disconnect(0)");
        }
        Scene mixed = new Scene("declare(0, 1, 1, true, 0); declare(0, 1, 1, true, 2); declare(0, 1, 1, true, 1); store(0, 3); store(1, 4)");
        mixed.state("disconnect(0)", "disconnect(2)");
        mixed.due("disconnect(1)", 0);
    }

    /** reconnect: "if there is no such current record". */
    private static void reconnectWithoutRunUnit() {
        Scene lost = new Scene("declare(0, 1, 1, true, 1); store(0, 3); store(1, 4); store(1, 5); erase(0)");
        lost.state("reconnect(0, 0)");
        lost.then("find(1)").due("reconnect(0, 0)", 1);
    }

    /** reconnect: "it is no member of a set of this type". */
    private static void reconnectOfNoMember() {
        Scene four = new Scene("declare(1, 2, 1, true, 2); store(0, 0); store(1, 1); store(2, 2); store(3, 3)");
        four.then("find(0)").state("reconnect(0, 1)");
        four.then("find(1)").state("reconnect(0, 1)");
        four.then("find(2)").due("reconnect(0, 1)", 1);
        four.then("find(2); disconnect(0)").state("reconnect(0, 1)");
        four.then("find(3)").state("reconnect(0, 1)");
        Scene one = new Scene("declare(0, 1, 1, true, 2); declare(0, 1, 1, false, 2); store(0, 3); store(1, 4); store(0, 5); find(1)");
        one.state("reconnect(1, 0)", "reconnect(1, 2)");
        one.due("reconnect(0, 2)", 1);
        one.then("find(0); erase(1); find(1)").state("reconnect(0, 2)");
    }

    /** reconnect: "or the retention is 0", to the same owner and to another one. */
    private static void reconnectByRetention() {
        for (int retention = 0; retention < 3; retention++) {
            Scene scene = new Scene("declare(0, 1, 1, true, " + retention + "); store(0, 3); store(0, 4); store(1, 5); store(1, 6)");
            if (retention == 0) {
                scene.state("reconnect(0, 0)", "reconnect(0, 1)");
            } else {
                scene.due("reconnect(0, 0)", 1);
                scene.due("reconnect(0, 1)", 2);
            }
        }
        Scene mixed = new Scene("declare(0, 1, 1, true, 2); declare(0, 1, 1, true, 0); declare(0, 1, 1, true, 1); store(0, 3); store(1, 4)");
        mixed.due("reconnect(0, 0)", 1);
        mixed.state("reconnect(1, 0)");
        mixed.due("reconnect(2, 0)", 1);
    }

    /** memberAt: "the record does not have the owner type". */
    private static void memberAtOfNoOwner() {
        Scene four = new Scene("declare(1, 2, 1, true, 2); declare(2, 1, 1, false, 2); store(0, 0); store(1, 1); store(2, 2); store(3, 3)");
        four.index("memberAt(0, 0, 0)", "memberAt(2, 0, 0)", "memberAt(3, 0, 0)");
        four.asks("memberAt(1, 0, 0)", 2);
        four.index("memberAt(0, 1, 0)", "memberAt(1, 1, 0)", "memberAt(2, 1, 0)", "memberAt(3, 1, 0)");
    }

    /** "A record that is erased is no current one any more": each call that wants a run unit, by each way. */
    private static void runUnitLost() {
        String row = "declare(0, 1, 1, true, 2); store(0, 3); store(1, 4); store(1, 5); find(1);";
        for (int way = 0; way < 3; way++) {
            Scene lost = new Scene(row + "erase(" + way + ")");
            lost.state("modify(0)", "erase(0)", "erase(1)", "erase(2)", "connect(0)", "disconnect(0)", "reconnect(0, 0)");
        }
    }
}
