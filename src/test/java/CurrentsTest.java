/**
 * The currents: whose current a record becomes, which currents stay, which are none when a record is
 * taken out or erased, and which set is the current one.
 */
public final class CurrentsTest {
    /**
     * The set types: 0 of type 0 over type 1, 1 of type 1 over type 2, 2 of type 0 over type 2. The owner 0
     * has the members 1 and 2, the owner 2 has the member 3; 4 has a type of no set type.
     */
    private static final String FAMILY = "declare(0, 1, 1, false, 2); declare(1, 2, 1, false, 2); declare(0, 2, 1, false, 2);"
        + "store(0, 10); store(1, 11); connect(0); store(1, 12); connect(0); store(2, 13); connect(1); store(3, 14);";

    public static void main(String[] args) {
        storing();
        finding();
        everyCallThatFinds();
        connecting();
        disconnecting();
        reconnecting();
        modifying();
        currentSetByOwnerAndMember();
        erasedAlone();
        erasedWithAll();
        othersStay();
        takenOutByErasing();
        Check.end("CurrentsTest");
    }

    /** "Then it becomes current": of the run unit, its type, what it owns, where it is a member, and nothing else. */
    private static void storing() {
        Scene fresh = new Scene("declare(0, 1, 1, true, 2); declare(0, 1, 1, false, 2); declare(1, 2, 1, false, 2)");
        fresh.currents(-1, -1, -1, -1, -1, -1, -1, -1);
        Scene owner = fresh.then("store(0, 0)");
        owner.currents(0, 0, -1, -1, -1, 0, 0, -1);
        Scene member = owner.then("store(1, 0)");
        member.currents(1, 0, 1, -1, -1, 1, 0, 1);
        Scene ofNoSet = member.then("store(2, 0)");
        ofNoSet.currents(2, 0, 1, 2, -1, 1, 0, 1);
        ofNoSet.then("store(3, 0)").currents(3, 0, 1, 2, 3, 1, 0, 1);
        ofNoSet.then("store(0, 0)").currents(3, 3, 1, 2, -1, 3, 3, 1);
    }

    private static void finding() {
        Scene family = new Scene(FAMILY);
        family.currents(4, 0, 2, 3, 4, 2, 3, 0);
        family.then("find(0)").currents(0, 0, 2, 3, 4, 0, 3, 0);
        family.then("find(1)").currents(1, 0, 1, 3, 4, 1, 1, 0);
        family.then("find(2)").currents(2, 0, 2, 3, 4, 2, 2, 0);
        family.then("find(3)").currents(3, 0, 2, 3, 4, 2, 3, 0);
        family.then("find(1); find(4)").currents(4, 0, 1, 3, 4, 1, 1, 0);
    }

    /** "Calls that find a record return its number, and make it current". */
    private static void everyCallThatFinds() {
        Scene family = new Scene(FAMILY);
        family.then("findOf(1, true)").currents(1, 0, 1, 3, 4, 1, 1, 0);
        family.then("find(1); findOf(1, false)").currents(2, 0, 2, 3, 4, 2, 2, 0);
        family.then("findEnd(0, false)").currents(1, 0, 1, 3, 4, 1, 1, 0);
        family.then("find(1); findEnd(0, true)").currents(2, 0, 2, 3, 4, 2, 2, 0);
        family.then("findNext(0, true)").currents(1, 0, 1, 3, 4, 1, 1, 0);
        family.then("find(1); findNext(0, false)").currents(2, 0, 2, 3, 4, 2, 2, 0);
        family.then("findOwner(0)").currents(0, 0, 2, 3, 4, 0, 3, 0);
        family.then("find(1); find(3); findOwner(1)").currents(2, 0, 2, 3, 4, 2, 2, 0);
        family.then("findOwner(2)").currents(0, 0, 2, 3, 4, 0, 3, 0);
        family.then("findValue(0, 11)").currents(1, 0, 1, 3, 4, 1, 1, 0);
        family.then("find(2); findValue(1, 13)").currents(3, 0, 2, 3, 4, 2, 3, 0);
        // What is current already stays so.
        family.then("findOwner(0); findOwner(0)").currents(0, 0, 2, 3, 4, 0, 3, 0);
        family.then("findEnd(0, true); findEnd(0, true)").currents(2, 0, 2, 3, 4, 2, 2, 0);
    }

    /** connect: "it is the current record of the set type then", and only there. */
    private static void connecting() {
        Scene family = new Scene(FAMILY + "store(2, 15); find(1); find(5)");
        family.currents(5, 0, 1, 5, 4, 1, 1, 0);
        family.then("connect(1)").currents(5, 0, 1, 5, 4, 1, 5, 0);
        family.then("connect(2)").currents(5, 0, 1, 5, 4, 1, 1, 5);
        family.then("connect(2)").ring(0, 2, 5);
        family.then("connect(1)").ring(1, 1, 5);
    }

    /** disconnect: "if it was the current record of the set type, that is none then", and only that. */
    private static void disconnecting() {
        Scene family = new Scene(FAMILY + "find(2)");
        family.then("disconnect(0)").currents(2, 0, 2, 3, 4, -1, 2, 0);
        Scene both = new Scene("declare(0, 1, 1, true, 2); declare(2, 1, 1, true, 2); store(0, 0); store(2, 0); store(1, 0)");
        both.then("disconnect(0)").currents(2, 0, 2, 1, -1, -1, 2);
        both.then("disconnect(1)").currents(2, 0, 2, 1, -1, 2, -1);
        both.then("disconnect(1); disconnect(0)").currents(2, 0, 2, 1, -1, -1, -1);
        both.then("disconnect(0); find(2)").currents(2, 0, 2, 1, -1, -1, 2);
    }

    /** reconnect: "it is the current record of the set type then", also in the set that it was in. */
    private static void reconnecting() {
        Scene scene = new Scene(FAMILY + "store(0, 16); find(1)");
        scene.currents(1, 5, 1, 3, 4, 1, 1, 5);
        scene.then("reconnect(0, 5)").currents(1, 5, 1, 3, 4, 1, 1, 5);
        scene.then("reconnect(0, 0)").currents(1, 5, 1, 3, 4, 1, 1, 5);
        scene.then("reconnect(0, 5)").due("findOwner(0)", 5);
        scene.then("reconnect(0, 5)").due("findOwner(2)", 5);
        scene.then("reconnect(0, 0)").due("findOwner(0)", 0);
    }

    /** modify names no current, so that all stay, also where the record is sorted anew. */
    private static void modifying() {
        Scene sorted = new Scene("declare(0, 1, 4, true, 2); store(0, 0); store(1, 10); store(1, 20); store(1, 30); find(2)");
        sorted.then("modify(40)").currents(2, 0, 2, -1, -1, 2);
        sorted.then("modify(40)").ring(0, 0, 1, 3, 2);
        sorted.then("modify(40)").none("findNext(0, false)");
        sorted.then("modify(40)").due("findNext(0, true)", 3);
        sorted.then("find(0); modify(40)").currents(0, 0, 2, -1, -1, 0);
    }

    /** "The current set of a set type is the set to which its current record belongs as its owner or a member". */
    private static void currentSetByOwnerAndMember() {
        Scene two = new Scene("declare(0, 1, 1, true, 2); store(0, 0); store(1, 1); store(0, 2); store(1, 3)");
        two.then("find(0); store(1, 9)").ring(0, 0, 1, 4);
        two.then("find(1); store(1, 9)").ring(0, 0, 1, 4);
        two.then("find(2); store(1, 9)").ring(2, 0, 3, 4);
        two.then("find(3); store(1, 9)").ring(2, 0, 3, 4);
        two.then("find(1); find(3); disconnect(0); find(0); find(3); connect(0)").ring(0, 0, 1, 3);
        // A record of another type, or of no set, does not change which set is current.
        two.then("find(1); store(3, 0); store(1, 9)").ring(0, 0, 1, 5);
        two.then("disconnect(0); find(1); find(3); store(1, 9)").ring(0, 0, 1, 4);
    }

    /** "A record that is erased is no current one any more; the currents that it was are none then." */
    private static void erasedAlone() {
        Scene family = new Scene(FAMILY);
        family.then("erase(0)").currents(-1, 0, 2, 3, -1, 2, 3, 0);
        family.then("find(1); erase(0)").currents(-1, 0, -1, 3, 4, -1, -1, 0);
        family.then("find(3); erase(0)").currents(-1, 0, 2, -1, 4, 2, -1, 0);
        family.then("find(1); find(3); erase(0)").currents(-1, 0, 1, -1, 4, 1, -1, 0);
        family.then("find(2); erase(2)").currents(-1, 0, -1, -1, 4, -1, -1, 0);
        family.then("find(0); erase(1)").currents(-1, -1, 2, 3, 4, -1, 3, -1);
    }

    private static void erasedWithAll() {
        Scene family = new Scene(FAMILY + "find(0)");
        family.due("erase(2)", 4);
        family.then("erase(2)").currents(-1, -1, -1, -1, 4, -1, -1, -1);
        family.then("erase(2)").due("records()", 1);
        family.then("erase(2)").none("find(0)", "find(1)", "find(2)", "find(3)");
        family.then("erase(2)").due("find(4)", 4);
    }

    /** Currents that no erased record was stay, of its type too, and of a set type in which it was. */
    private static void othersStay() {
        Scene types = new Scene("declare(0, 1, 1, false, 0); store(0, 0); store(1, 0); connect(0); store(0, 0); store(1, 0); connect(0); find(0)");
        types.currents(0, 0, 3, -1, -1, 0);
        types.then("erase(1)").currents(-1, -1, 3, -1, -1, -1);
        types.then("erase(1)").ring(2, 0, 3);
        String below = "; store(0, 0); store(1, 0); connect(0); store(2, 0); connect(1); store(1, 0); store(2, 0); connect(1); find(0)";
        for (int retention = 0; retention < 3; retention++) {
            Scene sets = new Scene("declare(0, 1, 1, false, 0); declare(1, 2, 1, false, " + retention + ")" + below);
            sets.currents(0, 0, 3, 4, -1, 0, 4);
            sets.due("erase(1)", retention == 2 ? 2 : 3);
            sets.then("erase(1)").currents(-1, -1, 3, 4, -1, -1, 4);
            sets.then("erase(1)").ring(3, 1, 4);
        }
    }

    /** "those of others are taken out of their set and stay (if one of them is the current record of that set type, that is none then)". */
    private static void takenOutByErasing() {
        Scene scene = new Scene("declare(0, 1, 1, false, 0); declare(1, 2, 1, false, 2); declare(3, 2, 1, false, 2); store(0, 0); store(1, 0); connect(0);"
            + "store(3, 0); store(2, 0); connect(1); connect(2); store(2, 0); connect(1)");
        scene.currents(4, 0, 1, 4, 2, 1, 4, 3);
        // The last one of the set is the current one of the set type when its owner is erased.
        Scene last = scene.then("find(0); erase(1)");
        last.currents(-1, -1, -1, 4, 2, -1, -1, 3);
        last.asks("ownerOf(3, 1)", -1);
        last.asks("ownerOf(4, 1)", -1);
        last.asks("ownerOf(3, 2)", 2);
        // And here the first one, which stays current where it is a member still.
        Scene first = scene.then("find(3); find(0); erase(1)");
        first.currents(-1, -1, -1, 3, 2, -1, -1, 3);
        first.due("findOwner(2)", 2);
        first.none("findOwner(1)", "findNext(1, false)");
    }
}
