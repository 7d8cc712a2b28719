/**
 * The ring of a set: "behind the owner comes the first member, and behind the last member the owner".
 * Rings of no, one, two and three members are asked by place and walked round both ways, behind each
 * kind of change.
 */
public final class RingTest {
    /** The owner 0 with its members 1, 2, 3 and the owner 4 with none. */
    private static final String THREE = "declare(0, 1, 1, true, 2); store(0, 0); store(1, 10); store(1, 20); store(1, 30); store(0, 40);";

    public static void main(String[] args) {
        emptySet();
        oneMember();
        twoMembers();
        takenOutOfThree();
        erasedOutOfThree();
        emptiedAndFilledAgain();
        movedToAnotherOwner();
        movedWithinTheSet();
        oneSetForEachOwner();
        oneSetForEachMember();
        countsOfMembers();
        Check.end("RingTest");
    }

    /** "Each record of the owner type of a set type owns one set of this type, at first without members". */
    private static void emptySet() {
        for (int insertion = 0; insertion < 5; insertion++) {
            Scene empty = new Scene("declare(0, 1, " + insertion + ", false, 0); store(0, 5)");
            empty.ring(0, 0);
            empty.asks("members(0, 0)", 0);
            empty.asks("membersByTable(0, 0)", 0);
            empty.index("memberAt(0, 0, 0)");
            empty.none("findEnd(0, false)", "findEnd(0, true)", "findNext(0, false)", "findNext(0, true)", "findValue(0, 5)");
            empty.due("findOwner(0)", 0);
            empty.then("store(1, 5)").ring(0, 0);
        }
    }

    private static void oneMember() {
        for (int insertion = 0; insertion < 5; insertion++) {
            String declare = "declare(0, 1, " + insertion + ", true, 2);";
            new Scene(declare + "store(0, 5); store(1, 5)").ring(0, 0, 1);
            new Scene(declare + "store(0, 5); store(1, 5); modify(6)").ring(0, 0, 1);
            new Scene(declare + "store(0, 5); store(1, 5); reconnect(0, 0)").ring(0, 0, 1);
            new Scene(declare + "store(0, 5); store(1, 5); disconnect(0)").ring(0, 0);
            new Scene(declare + "store(0, 5); store(1, 5); erase(0)").ring(0, 0);
            new Scene(declare.replace("true", "false") + "store(0, 5); store(1, 5); connect(0)").ring(0, 0, 1);
        }
    }

    private static void twoMembers() {
        int[][] due = {{2, 1}, {1, 2}, {1, 2}, {2, 1}, {2, 1}};
        for (int insertion = 0; insertion < 5; insertion++) {
            Scene two = new Scene("declare(0, 1, " + insertion + ", true, 2); store(0, 5); store(1, 7); store(1, 6)");
            two.ring(0, 0, due[insertion]);
            two.then("find(1); disconnect(0)").ring(0, 0, 2);
            two.then("find(2); disconnect(0)").ring(0, 0, 1);
        }
    }

    /** Taken out at the first place, in the middle, at the last place, and all. */
    private static void takenOutOfThree() {
        Scene three = new Scene(THREE);
        three.ring(0, 0, 1, 2, 3);
        three.then("find(1); disconnect(0)").ring(0, 0, 2, 3);
        three.then("find(2); disconnect(0)").ring(0, 0, 1, 3);
        three.then("find(3); disconnect(0)").ring(0, 0, 1, 2);
        three.then("find(1); disconnect(0); find(3); disconnect(0); find(2); disconnect(0)").ring(0, 0);
        for (int record = 1; record < 4; record++) {
            three.then("find(" + record + "); disconnect(0)").asks("ownerOf(" + record + ", 0)", -1);
            three.then("find(" + record + ")").due("disconnect(0)", 2);
        }
    }

    /** "A record is erased together with its membership in sets". */
    private static void erasedOutOfThree() {
        Scene three = new Scene(THREE);
        for (int way = 0; way < 3; way++) {
            three.then("find(1); erase(" + way + ")").ring(0, 0, 2, 3);
            three.then("find(2); erase(" + way + ")").ring(0, 0, 1, 3);
            three.then("find(3); erase(" + way + ")").ring(0, 0, 1, 2);
            three.then("find(3); erase(" + way + "); find(1); erase(" + way + ")").ring(0, 0, 2);
        }
        Scene twoSets = new Scene("declare(0, 1, 1, true, 2); declare(2, 1, 0, true, 0); store(0, 0); store(2, 0); store(1, 1); store(1, 2); store(1, 3)");
        twoSets.then("find(3); erase(0)").ring(0, 0, 2, 4);
        twoSets.then("find(3); erase(0)").ring(1, 1, 4, 2);
    }

    private static void emptiedAndFilledAgain() {
        Scene empty = new Scene(THREE + "find(1); disconnect(0); find(2); disconnect(0); find(3); disconnect(0)");
        empty.ring(0, 0);
        empty.then("find(0); find(2); connect(0)").ring(0, 0, 2);
        empty.then("find(0); find(2); connect(0); find(1); connect(0)").ring(0, 0, 2, 1);
        empty.then("find(0); store(1, 5)").ring(0, 0, 5);
    }

    /** reconnect to another owner, into an empty set, and out of a set that is empty then. */
    private static void movedToAnotherOwner() {
        Scene moved = new Scene(THREE + "find(2); reconnect(0, 4)");
        moved.ring(0, 0, 1, 3);
        moved.ring(4, 0, 2);
        Scene all = moved.then("find(1); reconnect(0, 4); find(3); reconnect(0, 4)");
        all.ring(0, 0);
        all.ring(4, 0, 2, 1, 3);
        new Scene(THREE + "find(2)").due("reconnect(0, 4)", 1);
        moved.then("find(1)").due("reconnect(0, 4)", 2);
        moved.due("reconnect(0, 0)", 3);
    }

    private static void movedWithinTheSet() {
        Scene three = new Scene(THREE);
        three.then("find(1); reconnect(0, 0)").ring(0, 0, 2, 3, 1);
        three.then("find(2); reconnect(0, 0)").ring(0, 0, 1, 3, 2);
        three.then("find(3); reconnect(0, 0)").ring(0, 0, 1, 2, 3);
        three.then("find(2)").due("reconnect(0, 0)", 3);
    }

    /** Each owner has a set of its own of each set type; other records have none. */
    private static void oneSetForEachOwner() {
        Scene scene = new Scene("declare(0, 1, 1, true, 2); declare(0, 1, 0, true, 2); declare(1, 2, 1, true, 2); store(0, 0); store(0, 0);"
            + "store(1, 3); store(1, 4); find(0); store(1, 5); store(2, 6)");
        scene.ring(1, 0, 2, 3);
        scene.ring(1, 1, 3, 2);
        scene.ring(0, 0, 4);
        scene.ring(0, 1, 4);
        scene.ring(2, 2);
        scene.ring(3, 2);
        scene.ring(4, 2, 5);
        scene.none("members(5, 2)", "members(5, 0)", "members(2, 0)", "members(0, 2)");
    }

    /** "each record of the member type is a member of one set of this type at most". */
    private static void oneSetForEachMember() {
        Scene scene = new Scene("declare(0, 1, 1, false, 2); store(0, 0); store(1, 0); connect(0); store(0, 0); find(1)");
        scene.state("connect(0)");
        Scene moved = scene.then("reconnect(0, 2)");
        moved.ring(0, 0);
        moved.ring(2, 0, 1);
        moved.asks("ownerOf(1, 0)", 2);
        moved.state("connect(0)");
        moved.then("find(0); find(1)").state("connect(0)");
        Scene out = moved.then("disconnect(0)");
        out.ring(0, 0);
        out.ring(2, 0);
        out.then("find(0); find(1)").due("connect(0)", 1);
    }

    /** "how many members the set has then": connect, disconnect and reconnect at none, one, two and three. */
    private static void countsOfMembers() {
        Scene manual = new Scene("declare(0, 1, 1, false, 2); store(0, 0); store(1, 1); store(1, 2); store(1, 3); find(1)");
        manual.due("connect(0)", 1);
        Scene one = manual.then("connect(0); find(2)");
        one.due("connect(0)", 2);
        Scene two = one.then("connect(0); find(3)");
        two.due("connect(0)", 3);
        Scene three = two.then("connect(0)");
        three.due("disconnect(0)", 2);
        three.due("reconnect(0, 0)", 3);
        two.then("find(1)").due("disconnect(0)", 1);
        one.then("find(1)").due("disconnect(0)", 0);
        one.then("find(1)").due("reconnect(0, 0)", 1);
    }
}
