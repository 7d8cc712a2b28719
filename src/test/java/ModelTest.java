import java.util.ArrayList;
import java.util.List;
import java.util.Random;
import java.util.TreeSet;

/**
 * All promises: runs of calls on the class and on a model of plain lists, which shares no code or
 * structure with it. The seeds are written here, so that every run of this test makes the same calls.
 */
public final class ModelTest {
    private static final int RUNS = 3000;
    private static final int CALLS = 512;

    public static void main(String[] args) {
        for (int run = 0; run < RUNS; run++) {
            anyCalls(new Random(run));
            whollyCompared(new Random(1_000_000 + run));
        }
        Check.end("ModelTest");
    }

    /** Calls of all kinds, as many as are promised, each answer compared. */
    private static void anyCalls(Random random) {
        NetworkDatabase x = new NetworkDatabase();
        Model model = new Model();
        List<String> calls = new ArrayList<>();
        int declares = random.nextInt(10);
        boolean wild = random.nextInt(4) == 0;
        for (int call = 0; call < CALLS; call++) {
            int kind = call < declares ? 0 : random.nextInt(40);
            if (!one(x, model, kind, random, wild, calls)) {
                return;
            }
        }
    }

    /** Fewer calls on a few records, and then all that can be asked: for what no later call would show. */
    private static void whollyCompared(Random random) {
        NetworkDatabase x = new NetworkDatabase();
        Model model = new Model();
        List<String> calls = new ArrayList<>();
        int declares = 1 + random.nextInt(4);
        int length = declares + 10 + random.nextInt(50);
        for (int call = 0; call < length; call++) {
            int kind = call < declares ? 0 : 1 + random.nextInt(18);
            if (kind <= 3 && model.stored >= 8) {
                kind += 3;
            }
            if (!one(x, model, kind, random, false, calls)) {
                return;
            }
        }
        compareAll(x, model, calls);
    }

    private static boolean one(NetworkDatabase x, Model m, int kind, Random random, boolean wild, List<String> calls) {
        int type = number(random, 4, wild);
        int record = number(random, Math.max(1, m.stored), wild);
        int set = number(random, Math.max(1, m.sets.size()), wild);
        int value = number(random, 6, wild);
        int way = number(random, 3, wild);
        int other = number(random, 4, wild);
        int insertion = number(random, 5, wild);
        int retention = number(random, 3, wild);
        boolean flag = random.nextBoolean();
        switch (kind) {
            case 0:
                int another = !wild && other == type ? (type + 1) % 4 : other;
                return same(calls, "declare(" + type + ", " + another + ", " + insertion + ", " + flag + ", " + retention + ")",
                        () -> m.declare(type, another, insertion, flag, retention), () -> x.declare(type, another, insertion, flag, retention));
            case 1: case 2: case 3:
                return same(calls, "store(" + type + ", " + value + ")", () -> m.store(type, value), () -> x.store(type, value));
            case 4: case 5:
                return same(calls, "modify(" + value + ")", () -> m.modify(value), () -> x.modify(value));
            case 6:
                // A rarer way for the calls that empty the database at once.
                int rarer = way > 0 && random.nextBoolean() ? 0 : way;
                return same(calls, "erase(" + rarer + ")", () -> m.erase(rarer), () -> x.erase(rarer));
            case 7: case 8: case 9:
                return same(calls, "connect(" + set + ")", () -> m.connect(set), () -> x.connect(set));
            case 10:
                return same(calls, "disconnect(" + set + ")", () -> m.disconnect(set), () -> x.disconnect(set));
            case 11:
                return same(calls, "reconnect(" + set + ", " + record + ")", () -> m.reconnect(set, record), () -> x.reconnect(set, record));
            case 12: case 13:
                return same(calls, "find(" + record + ")", () -> m.find(record), () -> x.find(record));
            case 14:
                return same(calls, "findOf(" + type + ", " + flag + ")", () -> m.findOf(type, flag), () -> x.findOf(type, flag));
            case 15:
                return same(calls, "findEnd(" + set + ", " + flag + ")", () -> m.findEnd(set, flag), () -> x.findEnd(set, flag));
            case 16:
                return same(calls, "findNext(" + set + ", " + flag + ")", () -> m.findNext(set, flag), () -> x.findNext(set, flag));
            case 17:
                return same(calls, "findOwner(" + set + ")", () -> m.findOwner(set), () -> x.findOwner(set));
            case 18:
                return same(calls, "findValue(" + set + ", " + value + ")", () -> m.findValue(set, value), () -> x.findValue(set, value));
            case 19:
                return same(calls, "setTypes()", () -> m.sets.size(), x::setTypes);
            case 20:
                return same(calls, "records()", m::records, x::records);
            case 21: case 22:
                return same(calls, "current()", () -> m.runUnit, x::current);
            case 23: case 24:
                return same(calls, "currentOf(" + type + ")", () -> m.currentOf(type), () -> x.currentOf(type));
            case 25: case 26:
                return same(calls, "currentIn(" + set + ")", () -> m.set(set).current, () -> x.currentIn(set));
            case 27:
                return same(calls, "typeOf(" + record + ")", () -> m.record(record).type, () -> x.typeOf(record));
            case 28:
                return same(calls, "valueOf(" + record + ")", () -> m.record(record).value, () -> x.valueOf(record));
            case 29: case 30:
                return same(calls, "ownerOf(" + record + ", " + set + ")", () -> m.ownerOf(record, set), () -> x.ownerOf(record, set));
            case 31: case 32:
                return same(calls, "members(" + record + ", " + set + ")", () -> m.members(record, set), () -> x.members(record, set));
            case 33:
                return same(calls, "membersByTable(" + record + ", " + set + ")", () -> m.members(record, set), () -> x.membersByTable(record, set));
            case 34: case 35: case 36:
                return same(calls, "memberAt(" + record + ", " + set + ", " + other + ")",
                        () -> m.memberAt(record, set, other), () -> x.memberAt(record, set, other));
            default:
                return same(calls, "wouldErase(" + record + ", " + way + ")", () -> m.wouldErase(record, way), () -> x.wouldErase(record, way));
        }
    }

    /** Mostly one from 0 on, below the bound; in a wild run now and then one that is far outside. */
    private static int number(Random random, int bound, boolean wild) {
        if (!wild || random.nextInt(10) != 0) {
            return random.nextInt(bound);
        }
        int[] far = {-1, bound, bound + 1, 60, -1000, 1000, -1001, 1001, Integer.MIN_VALUE, Integer.MAX_VALUE};
        return far[random.nextInt(far.length)];
    }

    private static boolean same(List<String> calls, String call, java.util.function.IntSupplier model, java.util.function.IntSupplier own) {
        calls.add(call);
        String want = Check.outcome(model);
        String got = Check.outcome(own);
        Check.equal(want.equals(got) ? call : "after " + calls, want, got);
        return want.equals(got);
    }

    private static void compareAll(NetworkDatabase x, Model m, List<String> calls) {
        same(calls, "records()", m::records, x::records);
        same(calls, "current()", () -> m.runUnit, x::current);
        for (int type = 0; type < 4; type++) {
            int t = type;
            same(calls, "currentOf(" + t + ")", () -> m.currentOf(t), () -> x.currentOf(t));
        }
        for (int set = 0; set < m.sets.size(); set++) {
            int s = set;
            same(calls, "currentIn(" + s + ")", () -> m.set(s).current, () -> x.currentIn(s));
        }
        for (int record = 0; record < m.stored; record++) {
            int r = record;
            same(calls, "typeOf(" + r + ")", () -> m.record(r).type, () -> x.typeOf(r));
            same(calls, "valueOf(" + r + ")", () -> m.record(r).value, () -> x.valueOf(r));
            for (int way = 0; way < 3; way++) {
                int w = way;
                same(calls, "wouldErase(" + r + ", " + w + ")", () -> m.wouldErase(r, w), () -> x.wouldErase(r, w));
            }
            for (int set = 0; set < m.sets.size(); set++) {
                int s = set;
                same(calls, "ownerOf(" + r + ", " + s + ")", () -> m.ownerOf(r, s), () -> x.ownerOf(r, s));
                same(calls, "members(" + r + ", " + s + ")", () -> m.members(r, s), () -> x.members(r, s));
                same(calls, "membersByTable(" + r + ", " + s + ")", () -> m.members(r, s), () -> x.membersByTable(r, s));
                for (int place = 0; m.isOwner(r, s) && place <= m.members(r, s); place++) {
                    int p = place;
                    same(calls, "memberAt(" + r + ", " + s + ", " + p + ")", () -> m.memberAt(r, s, p), () -> x.memberAt(r, s, p));
                }
            }
        }
    }

    private static final class Item {
        int type;
        int value;
    }

    private static final class Kind {
        int owner;
        int member;
        int insertion;
        boolean automatic;
        int retention;
        int current = -1;
        /** For each record of the owner type its members in their order; null for all others. */
        final List<List<Integer>> lists = new ArrayList<>();
    }

    /** The document again, as lists: written from its words alone. */
    private static final class Model {
        final List<Kind> sets = new ArrayList<>();
        final List<Item> items = new ArrayList<>();
        final int[] currentOf = {-1, -1, -1, -1};
        int runUnit = -1;
        int stored = 0;

        Kind set(int set) {
            if (set < 0 || set >= sets.size()) {
                throw new IndexOutOfBoundsException();
            }
            return sets.get(set);
        }

        Item record(int record) {
            if (!exists(record)) {
                throw new IndexOutOfBoundsException();
            }
            return items.get(record);
        }

        boolean exists(int record) {
            return record >= 0 && record < stored && items.get(record) != null;
        }

        boolean isOwner(int record, int set) {
            return exists(record) && items.get(record).type == sets.get(set).owner;
        }

        int ownerIn(Kind kind, int record) {
            for (int owner = 0; owner < stored; owner++) {
                List<Integer> list = kind.lists.get(owner);
                if (list != null && list.contains(record)) {
                    return owner;
                }
            }
            return -1;
        }

        /** The owner of the current set; -1 if there is none. */
        int currentSet(Kind kind) {
            if (kind.current == -1) {
                return -1;
            }
            return items.get(kind.current).type == kind.owner ? kind.current : ownerIn(kind, kind.current);
        }

        static void argument(boolean wrong) {
            if (wrong) {
                throw new IllegalArgumentException();
            }
        }

        static void state(boolean wrong) {
            if (wrong) {
                throw new IllegalStateException();
            }
        }

        int declare(int owner, int member, int insertion, boolean automatic, int retention) {
            argument(owner < 0 || owner > 3 || member < 0 || member > 3 || owner == member);
            argument(insertion < 0 || insertion > 4 || retention < 0 || retention > 2);
            state(sets.size() == 6 || stored > 0);
            Kind kind = new Kind();
            kind.owner = owner;
            kind.member = member;
            kind.insertion = insertion;
            kind.automatic = automatic;
            kind.retention = retention;
            sets.add(kind);
            return sets.size() - 1;
        }

        int store(int type, int value) {
            argument(type < 0 || type > 3 || value < -1000 || value > 1000);
            state(stored == 60);
            for (Kind kind : sets) {
                state(kind.automatic && kind.member == type && kind.current == -1);
            }
            Item item = new Item();
            item.type = type;
            item.value = value;
            items.add(item);
            int record = stored++;
            for (Kind kind : sets) {
                kind.lists.add(kind.owner == type ? new ArrayList<>() : null);
            }
            for (Kind kind : sets) {
                if (kind.automatic && kind.member == type) {
                    insert(kind, currentSet(kind), record);
                }
            }
            return found(record);
        }

        void insert(Kind kind, int owner, int record) {
            List<Integer> list = kind.lists.get(owner);
            int at = list.indexOf(kind.current);
            int place;
            if (kind.insertion == 4) {
                place = 0;
                while (place < list.size() && items.get(list.get(place)).value <= items.get(record).value) {
                    place++;
                }
            } else if (kind.insertion == 2) {
                place = at + 1;
            } else if (kind.insertion == 3) {
                place = at == -1 ? list.size() : at;
            } else {
                place = kind.insertion == 0 ? 0 : list.size();
            }
            list.add(place, record);
        }

        int modify(int value) {
            argument(value < -1000 || value > 1000);
            state(runUnit == -1);
            int before = items.get(runUnit).value;
            items.get(runUnit).value = value;
            for (Kind kind : sets) {
                int owner = ownerIn(kind, runUnit);
                if (kind.insertion == 4 && owner != -1) {
                    kind.lists.get(owner).remove(Integer.valueOf(runUnit));
                    insert(kind, owner, runUnit);
                }
            }
            return before;
        }

        int erase(int way) {
            argument(way < 0 || way > 2);
            state(runUnit == -1);
            TreeSet<Integer> doomed = doomed(runUnit, way);
            state(doomed == null);
            for (Kind kind : sets) {
                for (int record : doomed) {
                    int owner = ownerIn(kind, record);
                    if (owner != -1) {
                        kind.lists.get(owner).remove(Integer.valueOf(record));
                    }
                }
            }
            for (Kind kind : sets) {
                for (int record : doomed) {
                    List<Integer> list = kind.lists.set(record, null);
                    if (list != null && list.contains(kind.current) || kind.current == record) {
                        kind.current = -1;
                    }
                }
            }
            for (int record : doomed) {
                items.set(record, null);
                runUnit = runUnit == record ? -1 : runUnit;
                for (int type = 0; type < 4; type++) {
                    currentOf[type] = currentOf[type] == record ? -1 : currentOf[type];
                }
            }
            return doomed.size();
        }

        TreeSet<Integer> doomed(int record, int way) {
            TreeSet<Integer> all = new TreeSet<>();
            if (way == 0) {
                for (Kind kind : sets) {
                    if (kind.lists.get(record) != null && !kind.lists.get(record).isEmpty()) {
                        return null;
                    }
                }
            }
            spread(record, way, all);
            return all;
        }

        void spread(int record, int way, TreeSet<Integer> all) {
            if (!all.add(record)) {
                return;
            }
            for (Kind kind : sets) {
                if (kind.lists.get(record) != null && (way == 2 || kind.retention != 2)) {
                    for (int member : kind.lists.get(record)) {
                        spread(member, way, all);
                    }
                }
            }
        }

        int wouldErase(int record, int way) {
            record(record);
            argument(way < 0 || way > 2);
            TreeSet<Integer> doomed = doomed(record, way);
            return doomed == null ? -1 : doomed.size();
        }

        int connect(int set) {
            Kind kind = set(set);
            state(runUnit == -1);
            state(items.get(runUnit).type != kind.member || ownerIn(kind, runUnit) != -1 || kind.current == -1);
            int owner = currentSet(kind);
            insert(kind, owner, runUnit);
            kind.current = runUnit;
            return kind.lists.get(owner).size();
        }

        int disconnect(int set) {
            Kind kind = set(set);
            state(runUnit == -1 || ownerIn(kind, runUnit) == -1 || kind.retention != 2);
            List<Integer> list = kind.lists.get(ownerIn(kind, runUnit));
            list.remove(Integer.valueOf(runUnit));
            kind.current = kind.current == runUnit ? -1 : kind.current;
            return list.size();
        }

        int reconnect(int set, int owner) {
            Kind kind = set(set);
            if (!exists(owner) || items.get(owner).type != kind.owner) {
                throw new IndexOutOfBoundsException();
            }
            state(runUnit == -1 || ownerIn(kind, runUnit) == -1 || kind.retention == 0);
            kind.lists.get(ownerIn(kind, runUnit)).remove(Integer.valueOf(runUnit));
            insert(kind, owner, runUnit);
            kind.current = runUnit;
            return kind.lists.get(owner).size();
        }

        int found(int record) {
            runUnit = record;
            currentOf[items.get(record).type] = record;
            for (Kind kind : sets) {
                if (items.get(record).type == kind.owner || ownerIn(kind, record) != -1) {
                    kind.current = record;
                }
            }
            return record;
        }

        int find(int record) {
            return exists(record) ? found(record) : -1;
        }

        int findOf(int type, boolean anew) {
            argument(type < 0 || type > 3);
            for (int record = 0; record < stored; record++) {
                boolean behind = anew || currentOf[type] == -1 || record > currentOf[type];
                if (behind && exists(record) && items.get(record).type == type) {
                    return found(record);
                }
            }
            return -1;
        }

        int findEnd(int set, boolean last) {
            int owner = currentSet(set(set));
            List<Integer> list = owner == -1 ? List.of() : set(set).lists.get(owner);
            return list.isEmpty() ? -1 : found(list.get(last ? list.size() - 1 : 0));
        }

        int findNext(int set, boolean prior) {
            int owner = currentSet(set(set));
            if (owner == -1 || owner == set(set).current) {
                return findEnd(set, prior);
            }
            List<Integer> list = set(set).lists.get(owner);
            int place = list.indexOf(set(set).current) + (prior ? -1 : 1);
            return place < 0 || place >= list.size() ? -1 : found(list.get(place));
        }

        int findOwner(int set) {
            int owner = currentSet(set(set));
            return owner == -1 ? -1 : found(owner);
        }

        int findValue(int set, int value) {
            int owner = currentSet(set(set));
            List<Integer> list = owner == -1 ? List.of() : set(set).lists.get(owner);
            for (int member : list) {
                if (items.get(member).value == value) {
                    return found(member);
                }
            }
            return -1;
        }

        int records() {
            int count = 0;
            for (Item item : items) {
                count += item == null ? 0 : 1;
            }
            return count;
        }

        int currentOf(int type) {
            argument(type < 0 || type > 3);
            return currentOf[type];
        }

        int ownerOf(int record, int set) {
            record(record);
            return ownerIn(set(set), record);
        }

        int members(int record, int set) {
            record(record);
            return record(record).type == set(set).owner ? set(set).lists.get(record).size() : -1;
        }

        int memberAt(int record, int set, int place) {
            if (members(record, set) == -1 || place < 0 || place >= members(record, set)) {
                throw new IndexOutOfBoundsException();
            }
            return set(set).lists.get(record).get(place);
        }
    }
}
