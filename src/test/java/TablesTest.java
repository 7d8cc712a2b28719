/** Promises 15 to 25: what there is, asked of records, sets and currents. */
public final class TablesTest {
    public static void main(String[] args) {
        currents();
        owners();
        members();
        membersByPlace();
        wrongRecords();
        wrongSets();
        erasedRecords();
        nothingChanges();
        Check.end("TablesTest");
    }

    /** The owners 0 and 1 of both set types; 2, 3, 4 are the second one's in the set type 0. */
    private static NetworkDatabase filled() {
        NetworkDatabase x = new NetworkDatabase();
        x.declare(0, 1, 0, true, 1);
        x.declare(0, 1, 0, false, 1);
        x.store(0, 0);
        x.store(0, 1);
        x.store(1, 2);
        x.store(1, 3);
        x.store(1, 4);
        return x;
    }

    private static void currents() {
        NetworkDatabase x = filled();
        Check.currents("filled", x, 4, 1, 4, -1, -1, 4, 1);
        x.find(0);
        Check.currents("the first owner", x, 0, 0, 4, -1, -1, 0, 0);
        x.find(3);
        Check.currents("a member of the second", x, 3, 0, 3, -1, -1, 3, 0);
        x.erase(0);
        Check.currents("erased", x, -1, 0, -1, -1, -1, -1, 0);
        Check.due("records", 4, x::records);
        Check.due("setTypes", 2, x::setTypes);
    }

    private static void owners() {
        NetworkDatabase x = filled();
        for (int record = 2; record < 5; record++) {
            int r = record;
            Check.due("ownerOf " + r, 1, () -> x.ownerOf(r, 0));
            Check.due("ownerOf in no set " + r, -1, () -> x.ownerOf(r, 1));
        }
        Check.due("ownerOf an owner", -1, () -> x.ownerOf(1, 0));
        Check.due("ownerOf an owner without members", -1, () -> x.ownerOf(0, 0));
    }

    private static void members() {
        NetworkDatabase x = filled();
        Check.due("members", 3, () -> x.members(1, 0));
        Check.due("membersByTable", 3, () -> x.membersByTable(1, 0));
        Check.due("no members", 0, () -> x.members(0, 0));
        Check.due("no members by table", 0, () -> x.membersByTable(0, 0));
        Check.due("of the other set type", 0, () -> x.members(1, 1));
        Check.due("of the other set type by table", 0, () -> x.membersByTable(1, 1));
        Check.due("not the owner type", -1, () -> x.members(2, 0));
        Check.due("not the owner type by table", -1, () -> x.membersByTable(2, 0));
    }

    private static void membersByPlace() {
        NetworkDatabase x = filled();
        Check.due("first", 4, () -> x.memberAt(1, 0, 0));
        Check.due("second", 3, () -> x.memberAt(1, 0, 1));
        Check.due("third", 2, () -> x.memberAt(1, 0, 2));
        int[] noPlaces = {-1, 3, 60, Integer.MIN_VALUE, Integer.MAX_VALUE};
        for (int place : noPlaces) {
            Check.index("place " + place, () -> x.memberAt(1, 0, place));
        }
        Check.index("a set without members", () -> x.memberAt(0, 0, 0));
        Check.index("the other set type", () -> x.memberAt(1, 1, 0));
        Check.index("not the owner type", () -> x.memberAt(2, 0, 0));
    }

    private static void wrongRecords() {
        NetworkDatabase x = filled();
        int[] none = {-1, 5, 59, 60, Integer.MIN_VALUE, Integer.MAX_VALUE};
        for (int record : none) {
            asked(x, record, 0);
        }
    }

    private static void wrongSets() {
        NetworkDatabase x = filled();
        int[] none = {-1, 2, 5, 6, Integer.MIN_VALUE, Integer.MAX_VALUE};
        for (int set : none) {
            asked(x, 1, set);
            Check.index("currentIn " + set, () -> x.currentIn(set));
        }
        int[] noTypes = {-1, 4, Integer.MIN_VALUE, Integer.MAX_VALUE};
        for (int type : noTypes) {
            Check.argument("currentOf " + type, () -> x.currentOf(type));
        }
    }

    private static void asked(NetworkDatabase x, int record, int set) {
        String of = " of " + record + " in " + set;
        Check.index("ownerOf" + of, () -> x.ownerOf(record, set));
        Check.index("members" + of, () -> x.members(record, set));
        Check.index("membersByTable" + of, () -> x.membersByTable(record, set));
        Check.index("memberAt" + of, () -> x.memberAt(record, set, 0));
    }

    private static void erasedRecords() {
        NetworkDatabase x = filled();
        x.find(3);
        x.erase(0);
        asked(x, 3, 0);
        Check.order("without it", x, 1, 0, 4, 2);
        x.find(1);
        x.erase(2);
        asked(x, 1, 0);
        asked(x, 4, 0);
        Check.order("the other owner's", x, 0, 0);
    }

    private static void nothingChanges() {
        NetworkDatabase x = filled();
        x.find(3);
        for (int record = 0; record < 5; record++) {
            for (int set = 0; set < 2; set++) {
                x.ownerOf(record, set);
                x.members(record, set);
                x.membersByTable(record, set);
            }
            x.typeOf(record);
            x.valueOf(record);
        }
        x.memberAt(1, 0, 2);
        Check.currents("still", x, 3, 1, 3, -1, -1, 3, 1);
        Check.order("still", x, 1, 0, 4, 3, 2);
    }
}
