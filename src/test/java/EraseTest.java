/** Promises 5 and 26: erase, wouldErase. */
public final class EraseTest {
    public static void main(String[] args) {
        wrongCalls();
        alone();
        aloneWithMembers();
        membersByRetention();
        everything();
        takenOutLoseTheirSet();
        currentBelowAnErasedMember();
        circle();
        deepChain();
        mostRecords();
        wouldEraseChangesNothing();
        eachWayAndRetention();
        eachWayOfAnEmptySet();
        inTheSameWayBelow();
        severalSetsOfOneOwner();
        memberOfAKeptAndAnErasedOwner();
        ownMembershipOfAnyRetention();
        asManyAsWouldBe();
        Check.end("EraseTest");
    }

    private static void wrongCalls() {
        NetworkDatabase x = new NetworkDatabase();
        int[] noWays = {-1, 3, Integer.MIN_VALUE, Integer.MAX_VALUE};
        for (int way : noWays) {
            Check.argument("erase " + way, () -> x.erase(way));
            Check.index("no record, way " + way, () -> x.wouldErase(0, way));
        }
        for (int way = 0; way < 3; way++) {
            int w = way;
            Check.state("nothing current, way " + w, () -> x.erase(w));
        }
        x.store(0, 0);
        for (int way : noWays) {
            Check.argument("erase " + way, () -> x.erase(way));
            Check.argument("wouldErase " + way, () -> x.wouldErase(0, way));
        }
        int[] none = {-1, 1, 60, Integer.MIN_VALUE, Integer.MAX_VALUE};
        for (int record : none) {
            Check.index("wouldErase of " + record, () -> x.wouldErase(record, 0));
        }
        Check.due("nothing was erased", 1, x::records);
        x.erase(0);
        Check.index("an erased record", () -> x.wouldErase(0, 0));
        Check.state("erase it again", () -> x.erase(0));
    }

    private static void alone() {
        NetworkDatabase x = new NetworkDatabase();
        x.declare(0, 1, 1, true, 0);
        x.store(0, 0);
        x.store(1, 1);
        x.store(1, 2);
        x.store(1, 3);
        x.find(2);
        Check.due("would", 1, () -> x.wouldErase(2, 0));
        Check.due("a member of a fixed set", 1, () -> x.erase(0));
        Check.order("the ring is closed", x, 0, 0, 1, 3);
        Check.currents("its currents are none", x, -1, 0, -1, -1, -1, -1);
        Check.due("three", 3, x::records);
        Check.due("it is not found", -1, () -> x.find(2));
        x.find(1);
        x.erase(0);
        x.find(3);
        x.erase(0);
        Check.order("no member left", x, 0, 0);
        x.find(0);
        Check.due("the owner without members", 1, () -> x.erase(0));
        Check.due("nothing is left", 0, x::records);
    }

    private static void aloneWithMembers() {
        for (int retention = 0; retention < 3; retention++) {
            NetworkDatabase x = new NetworkDatabase();
            x.declare(2, 3, 1, true, 0);
            x.declare(0, 1, 1, true, retention);
            x.store(0, 0);
            x.store(1, 0);
            x.find(0);
            Check.due("would", -1, () -> x.wouldErase(0, 0));
            Check.state("an owner with a member", () -> x.erase(0));
            Check.argument("and no such way", () -> x.erase(3));
            Check.order("all stays", x, 0, 1, 1);
            Check.currents("currents stay", x, 0, 0, 1, -1, -1, -1, 0);
        }
    }

    /** The record 0 owns 1 to 3 in a fixed, a mandatory and an optional set; 4 to 6 are theirs. */
    private static NetworkDatabase family() {
        NetworkDatabase x = new NetworkDatabase();
        x.declare(0, 1, 1, false, 0);
        x.declare(0, 1, 1, false, 1);
        x.declare(0, 1, 1, false, 2);
        x.declare(1, 2, 1, true, 1);
        x.store(0, 0);
        for (int set = 0; set < 3; set++) {
            x.store(1, set);
            x.connect(set);
        }
        for (int owner = 1; owner < 4; owner++) {
            x.find(owner);
            x.store(2, owner);
        }
        return x;
    }

    private static void membersByRetention() {
        NetworkDatabase x = family();
        x.find(0);
        Check.due("would", 5, () -> x.wouldErase(0, 1));
        Check.due("erase", 5, () -> x.erase(1));
        Check.due("two are left", 2, x::records);
        int[] gone = {0, 1, 2, 4, 5};
        for (int record : gone) {
            Check.index("gone " + record, () -> x.typeOf(record));
        }
        Check.due("the optional member", 1, () -> x.typeOf(3));
        Check.due("is no member now", -1, () -> x.ownerOf(3, 2));
        Check.order("and keeps its own", x, 3, 3, 6);
        Check.currents("currents", x, -1, -1, 3, 6, -1, -1, -1, -1, 6);
        x.store(0, 0);
        x.find(3);
        Check.due("it can be connected", 1, () -> x.connect(2));
    }

    private static void everything() {
        NetworkDatabase x = family();
        x.store(3, 7);
        x.store(0, 8);
        x.find(0);
        Check.due("would", 7, () -> x.wouldErase(0, 2));
        Check.due("erase", 7, () -> x.erase(2));
        Check.due("the others are left", 2, x::records);
        Check.due("of another type", 7, () -> x.valueOf(7));
        Check.due("another owner", 8, () -> x.valueOf(8));
        Check.currents("currents", x, -1, -1, -1, -1, 7, -1, -1, -1, -1);
    }

    private static void takenOutLoseTheirSet() {
        NetworkDatabase x = new NetworkDatabase();
        x.declare(0, 1, 1, true, 2);
        x.declare(2, 1, 1, true, 2);
        x.store(0, 0);
        x.store(2, 0);
        x.store(1, 1);
        x.store(1, 2);
        x.find(2);
        x.find(0);
        Check.due("would", 1, () -> x.wouldErase(0, 1));
        Check.due("the owner alone", 1, () -> x.erase(1));
        Check.due("first is out", -1, () -> x.ownerOf(2, 0));
        Check.due("second is out", -1, () -> x.ownerOf(3, 0));
        Check.order("the other set stays", x, 1, 1, 2, 3);
        Check.currents("currents", x, -1, -1, 2, 1, -1, -1, 2);
    }

    private static void currentBelowAnErasedMember() {
        NetworkDatabase y = new NetworkDatabase();
        y.declare(0, 1, 1, false, 0);
        y.declare(1, 2, 1, false, 2);
        y.store(0, 0);
        y.store(1, 0);
        y.connect(0);
        y.store(2, 0);
        y.connect(1);
        y.store(2, 0);
        y.connect(1);
        y.find(0);
        Check.due("the member's member is current", 3, () -> y.currentIn(1));
        Check.due("erase owner and member", 2, () -> y.erase(1));
        Check.due("it is none then", -1, () -> y.currentIn(1));
        Check.due("of its type it is still", 3, () -> y.currentOf(2));
        Check.due("and it stays", 2, () -> y.typeOf(3));
        y.find(2);
        Check.state("no current set", () -> y.connect(1));
    }

    private static void circle() {
        for (int retention = 0; retention < 3; retention++) {
            NetworkDatabase x = new NetworkDatabase();
            x.declare(0, 1, 1, false, 0);
            x.declare(1, 0, 1, false, retention);
            x.store(0, 0);
            x.store(1, 0);
            x.connect(0);
            x.find(0);
            x.connect(1);
            Check.due("each owns the other", 1, () -> x.ownerOf(0, 1));
            Check.due("alone", -1, () -> x.wouldErase(0, 0));
            Check.due("each once, way 1", 2, () -> x.wouldErase(0, 1));
            Check.due("each once, way 2", 2, () -> x.wouldErase(1, 2));
            Check.due("from the other side", retention == 2 ? 1 : 2, () -> x.wouldErase(1, 1));
            x.find(1);
            Check.due("erase", retention == 2 ? 1 : 2, () -> x.erase(1));
            Check.due("left", retention == 2 ? 1 : 0, x::records);
        }
    }

    private static void deepChain() {
        NetworkDatabase x = new NetworkDatabase();
        x.declare(0, 1, 1, true, 1);
        x.declare(1, 0, 1, false, 0);
        x.store(0, 0);
        for (int record = 1; record < 60; record++) {
            x.store(record % 2, record);
            if (record % 2 == 0) {
                x.connect(1);
            }
        }
        Check.due("a chain of sixty", 60, () -> x.wouldErase(0, 1));
        Check.due("from its middle", 30, () -> x.wouldErase(30, 2));
        x.find(30);
        Check.due("erase its end", 30, () -> x.erase(1));
        Check.due("the rest", 30, () -> x.wouldErase(0, 2));
        Check.order("its last owner", x, 29, 1);
    }

    private static void mostRecords() {
        NetworkDatabase x = new NetworkDatabase();
        x.declare(0, 1, 0, true, 2);
        x.store(0, 0);
        for (int record = 1; record < 60; record++) {
            x.store(1, record);
        }
        x.find(0);
        Check.due("the owner alone", 1, () -> x.wouldErase(0, 1));
        Check.due("all", 60, () -> x.wouldErase(0, 2));
        Check.due("erase all", 60, () -> x.erase(2));
        Check.due("none", 0, x::records);
    }

    private static void wouldEraseChangesNothing() {
        NetworkDatabase x = family();
        for (int way = 0; way < 3; way++) {
            for (int record = 0; record < 7; record++) {
                x.wouldErase(record, way);
            }
        }
        Check.due("seven", 7, x::records);
        Check.currents("currents", x, 6, 0, 3, 6, -1, 1, 2, 3, 6);
        Check.order("fixed", x, 0, 0, 1);
        Check.order("optional", x, 0, 2, 3);
        Check.order("below", x, 2, 3, 5);
    }

    /** The three ways by the three retentions, of an owner with one member. */
    private static void eachWayAndRetention() {
        for (int retention = 0; retention < 3; retention++) {
            Scene pair = new Scene("declare(0, 1, 1, true, " + retention + "); store(0, 0); store(1, 0); find(0)");
            pair.state("erase(0)");
            pair.asks("wouldErase(0, 0)", -1);
            boolean stays = retention == 2;
            pair.due("erase(1)", stays ? 1 : 2);
            pair.asks("wouldErase(0, 1)", stays ? 1 : 2);
            Scene first = pair.then("erase(1)");
            first.due("records()", stays ? 1 : 0);
            if (stays) {
                first.asks("typeOf(1)", 1);
                first.asks("ownerOf(1, 0)", -1);
                first.currents(-1, -1, 1, -1, -1, -1);
            } else {
                first.index("typeOf(1)");
                first.currents(-1, -1, -1, -1, -1, -1);
            }
            pair.due("erase(2)", 2);
            pair.asks("wouldErase(0, 2)", 2);
            pair.then("erase(2)").due("records()", 0);
            pair.then("erase(2)").currents(-1, -1, -1, -1, -1, -1);
        }
    }

    private static void eachWayOfAnEmptySet() {
        for (int retention = 0; retention < 3; retention++) {
            Scene empty = new Scene("declare(0, 1, 1, false, " + retention + "); store(0, 0); store(1, 0); find(0)");
            for (int way = 0; way < 3; way++) {
                empty.due("erase(" + way + ")", 1);
                empty.asks("wouldErase(0, " + way + ")", 1);
                empty.then("erase(" + way + ")").currents(-1, -1, 1, -1, -1, -1);
                empty.then("erase(" + way + ")").due("records()", 1);
            }
        }
    }

    /** "erased in the same way": what holds of the owner's members holds of theirs, by their own retention. */
    private static void inTheSameWayBelow() {
        for (int upper = 0; upper < 3; upper++) {
            for (int lower = 0; lower < 3; lower++) {
                Scene chain = new Scene("declare(0, 1, 1, true, " + upper + "); declare(1, 2, 1, true, " + lower
                    + "); store(0, 0); store(1, 0); store(2, 0); find(0)");
                int due = upper == 2 ? 1 : lower == 2 ? 2 : 3;
                chain.due("erase(1)", due);
                chain.asks("wouldErase(0, 1)", due);
                chain.asks("wouldErase(0, 2)", 3);
                chain.asks("wouldErase(0, 0)", -1);
                chain.asks("wouldErase(1, 1)", lower == 2 ? 1 : 2);
                chain.then("erase(1)").due("records()", 3 - due);
                chain.then("erase(2)").due("records()", 0);
                if (upper == 2) {
                    chain.then("erase(1)").ring(1, 1, 2);
                    chain.then("erase(1)").currents(-1, -1, 1, 2, -1, -1, 2);
                } else if (lower == 2) {
                    chain.then("erase(1)").asks("ownerOf(2, 1)", -1);
                    chain.then("erase(1)").currents(-1, -1, -1, 2, -1, -1, -1);
                }
            }
        }
    }

    /** Sets of each retention, of one owner: one member is erased, another one of the next set is taken out. */
    private static void severalSetsOfOneOwner() {
        Scene scene = new Scene("declare(0, 1, 1, false, 2); declare(0, 1, 1, false, 1); declare(0, 2, 1, false, 2); declare(0, 3, 1, false, 0);"
            + "store(0, 0); store(1, 1); connect(0); store(1, 2); connect(1); store(2, 3); connect(2); store(3, 4); connect(3);"
            + "store(1, 5); connect(0); find(0)");
        scene.asks("wouldErase(0, 1)", 3);
        scene.due("erase(1)", 3);
        Scene left = scene.then("erase(1)");
        left.none("find(0)", "find(2)", "find(4)", "ownerOf(1, 0)", "ownerOf(5, 0)", "ownerOf(3, 2)");
        left.due("records()", 3);
        left.currents(-1, -1, 5, 3, -1, -1, -1, -1, -1);
        scene.due("erase(2)", 6);
    }

    /** A member of an optional set that is erased, as it is a member of a fixed one too, whichever comes first. */
    private static void memberOfAKeptAndAnErasedOwner() {
        for (int optional = 0; optional < 2; optional++) {
            Scene both = new Scene("declare(0, 1, 1, true, " + (optional == 0 ? 2 : 0) + "); declare(0, 1, 1, true, " + (optional == 0 ? 0 : 2)
                + "); store(0, 0); store(1, 0); store(1, 0); find(0)");
            both.asks("wouldErase(0, 1)", 3);
            both.due("erase(1)", 3);
            both.then("erase(1)").due("records()", 0);
        }
        // The owner 1 stays, and its ring closes round the member that is erased with the owner 0.
        Scene other = new Scene("declare(0, 2, 1, true, 1); declare(1, 2, 1, true, 0); store(0, 0); store(1, 0); store(2, 0); store(0, 0);"
            + "store(2, 0); find(1); find(0)");
        other.due("erase(1)", 2);
        other.then("erase(1)").ring(1, 1, 4);
        other.then("erase(1)").ring(3, 0, 4);
        other.then("erase(1)").currents(-1, -1, 1, 4, -1, -1, 1);
    }

    /** What a record is a member of does not keep it from being erased, in any way. */
    private static void ownMembershipOfAnyRetention() {
        for (int retention = 0; retention < 3; retention++) {
            Scene member = new Scene("declare(0, 1, 1, true, " + retention + "); store(0, 0); store(1, 0)");
            for (int way = 0; way < 3; way++) {
                member.due("erase(" + way + ")", 1);
                member.asks("wouldErase(1, " + way + ")", 1);
                member.then("erase(" + way + ")").ring(0, 0);
                member.then("erase(" + way + ")").currents(-1, 0, -1, -1, -1, -1);
            }
        }
    }

    /** erase "Returns how many records are erased", and wouldErase says it ahead, of the current record and of others. */
    private static void asManyAsWouldBe() {
        Scene scene = new Scene("declare(0, 1, 1, false, 0); declare(0, 1, 1, false, 1); declare(0, 1, 1, false, 2); declare(1, 2, 1, true, 1);"
            + "store(0, 0); store(1, 0); connect(0); store(1, 1); connect(1); store(1, 2); connect(2); find(1); store(2, 1); find(2); store(2, 2); find(3); store(2, 3)");
        int[][] due = {{-1, 5, 7}, {-1, 2, 2}, {-1, 2, 2}, {-1, 2, 2}, {1, 1, 1}, {1, 1, 1}, {1, 1, 1}};
        for (int record = 0; record < 7; record++) {
            Scene found = scene.then("find(" + record + ")");
            for (int way = 0; way < 3; way++) {
                scene.asks("wouldErase(" + record + ", " + way + ")", due[record][way]);
                if (due[record][way] == -1) {
                    found.state("erase(" + way + ")");
                } else {
                    found.due("erase(" + way + ")", due[record][way]);
                    found.then("erase(" + way + ")").due("records()", 7 - due[record][way]);
                }
            }
        }
    }
}
