import java.util.ArrayList;
import java.util.Arrays;

/**
 * A network database: records of types that are owners and members of sets, each set a ring that
 * begins and ends at its owner, and a current of everything, by which records are found, stored,
 * connected and erased.
 */
public final class NetworkDatabase {
    private static final int NONE = -1;

    private static final int RECORD_TYPES = 4;
    private static final int MOST_SET_TYPES = 6;
    private static final int MOST_RECORDS = 60;
    private static final int GREATEST_VALUE = 1000;

    private static final int INSERT_FIRST = 0;
    private static final int INSERT_LAST = 1;
    private static final int INSERT_NEXT = 2;
    private static final int INSERT_PRIOR = 3;
    private static final int INSERT_SORTED = 4;

    private static final int RETENTION_FIXED = 0;
    private static final int RETENTION_OPTIONAL = 2;

    private static final int ERASE_ALONE = 0;
    private static final int ERASE_ALL = 2;

    private final ArrayList<SetType> sets;
    /** NONE for a number that was not stored yet, or whose record was erased. */
    private final Row types;
    private final Row values;
    private final Row currentOfTypes;
    /** Kept from call to call only so that no call has to make a new one. */
    private final Gathering doomed;
    private int stored;
    private int present;
    private int runUnit;

    public NetworkDatabase() {
        sets = new ArrayList<SetType>();
        types = new Row(MOST_RECORDS);
        values = new Row(MOST_RECORDS);
        currentOfTypes = new Row(RECORD_TYPES);
        doomed = new Gathering();
        stored = 0;
        present = 0;
        runUnit = NONE;
    }

    // ---- set types.

    public int declare(int owner, int member, int insertion, boolean automatic, int retention)
            throws IllegalArgumentException, IllegalStateException {
        requireType(owner);
        requireType(member);
        if (owner == member) {
            throw new IllegalArgumentException("owner type and member type are the same");
        }
        if (insertion < INSERT_FIRST || insertion > INSERT_SORTED) {
            throw new IllegalArgumentException("no such insertion");
        }
        if (retention < RETENTION_FIXED || retention > RETENTION_OPTIONAL) {
            throw new IllegalArgumentException("no such retention");
        }
        if (sets.size() >= MOST_SET_TYPES) {
            throw new IllegalStateException("there are no more set types");
        }
        if (stored > 0) {
            throw new IllegalStateException("a record was stored already");
        }
        sets.add(new SetType(owner, member, insertion, automatic, retention));
        return sets.size() - 1;
    }

    // ---- records.

    public int store(int type, int value) throws IllegalArgumentException, IllegalStateException {
        requireType(type);
        requireValue(value);
        if (stored >= MOST_RECORDS) {
            throw new IllegalStateException("no more records can be stored");
        }
        if (lacksSetFor(type)) {
            throw new IllegalStateException("an automatic set type has no current record");
        }
        int record = stored;
        stored++;
        present++;
        types.put(record, type);
        values.put(record, value);
        for (int set = 0; set < sets.size(); set++) {
            sets.get(set).admit(record, type, values);
        }
        return makeCurrent(record);
    }

    public int modify(int value) throws IllegalArgumentException, IllegalStateException {
        requireValue(value);
        requireRunUnit();
        int before = values.at(runUnit);
        values.put(runUnit, value);
        for (int set = 0; set < sets.size(); set++) {
            sets.get(set).sortAnew(runUnit, values);
        }
        return before;
    }

    public int erase(int way) throws IllegalArgumentException, IllegalStateException {
        requireWay(way);
        requireRunUnit();
        int count = gatherDoomed(runUnit, way);
        if (count == NONE) {
            throw new IllegalStateException("a set of the record has members");
        }
        for (int place = 0; place < count; place++) {
            remove(doomed.at(place));
        }
        return count;
    }

    // ---- membership.

    public int connect(int set) throws IndexOutOfBoundsException, IllegalStateException {
        SetType setType = requireSet(set);
        requireRunUnit();
        if (types.at(runUnit) != setType.memberType) {
            throw new IllegalStateException("the record does not have the member type");
        }
        if (setType.isMember(runUnit)) {
            throw new IllegalStateException("the record is a member already");
        }
        int owner = setType.currentOwner();
        if (owner == NONE) {
            throw new IllegalStateException("the set type has no current record");
        }
        setType.insert(runUnit, owner, values);
        setType.current = runUnit;
        return setType.countByRing(owner);
    }

    public int disconnect(int set) throws IndexOutOfBoundsException, IllegalStateException {
        SetType setType = requireSet(set);
        requireMembership(setType);
        if (setType.retention != RETENTION_OPTIONAL) {
            throw new IllegalStateException("the retention is not optional");
        }
        int owner = setType.ring.at(runUnit);
        setType.release(runUnit);
        return setType.countByRing(owner);
    }

    public int reconnect(int set, int owner) throws IndexOutOfBoundsException, IllegalStateException {
        SetType setType = requireSet(set);
        if (!setType.owns(owner)) {
            throw new IndexOutOfBoundsException("no such record of the owner type");
        }
        requireMembership(setType);
        if (setType.retention == RETENTION_FIXED) {
            throw new IllegalStateException("the retention is fixed");
        }
        setType.takeOut(runUnit);
        setType.insert(runUnit, owner, values);
        setType.current = runUnit;
        return setType.countByRing(owner);
    }

    // ---- finding.

    public int find(int record) {
        return makeCurrent(record);
    }

    public int findOf(int type, boolean anew) throws IllegalArgumentException {
        requireType(type);
        // NONE is one less than the first number, so that no current record means the first one.
        int start = anew ? 0 : currentOfTypes.at(type) + 1;
        for (int record = start; record < stored; record++) {
            if (types.at(record) == type) {
                return makeCurrent(record);
            }
        }
        return NONE;
    }

    public int findEnd(int set, boolean last) throws IndexOutOfBoundsException {
        SetType setType = requireSet(set);
        return makeCurrent(setType.neighbour(setType.currentOwner(), last));
    }

    public int findNext(int set, boolean prior) throws IndexOutOfBoundsException {
        SetType setType = requireSet(set);
        return makeCurrent(setType.neighbour(setType.current, prior));
    }

    public int findOwner(int set) throws IndexOutOfBoundsException {
        return makeCurrent(requireSet(set).currentOwner());
    }

    public int findValue(int set, int value) throws IndexOutOfBoundsException {
        SetType setType = requireSet(set);
        return makeCurrent(setType.firstWithValue(setType.currentOwner(), value, values));
    }

    // ---- what there is; nothing from here on changes anything.

    public int setTypes() {
        return sets.size();
    }

    public int records() {
        return present;
    }

    public int current() {
        return runUnit;
    }

    public int currentOf(int type) throws IllegalArgumentException {
        requireType(type);
        return currentOfTypes.at(type);
    }

    public int currentIn(int set) throws IndexOutOfBoundsException {
        return requireSet(set).current;
    }

    public int typeOf(int record) throws IndexOutOfBoundsException {
        requireRecord(record);
        return types.at(record);
    }

    public int valueOf(int record) throws IndexOutOfBoundsException {
        requireRecord(record);
        return values.at(record);
    }

    public int ownerOf(int record, int set) throws IndexOutOfBoundsException {
        requireRecord(record);
        SetType setType = requireSet(set);
        return setType.isMember(record) ? setType.ring.at(record) : NONE;
    }

    public int members(int record, int set) throws IndexOutOfBoundsException {
        requireRecord(record);
        SetType setType = requireSet(set);
        return setType.owns(record) ? setType.countByRing(record) : NONE;
    }

    public int membersByTable(int record, int set) throws IndexOutOfBoundsException {
        requireRecord(record);
        SetType setType = requireSet(set);
        return setType.owns(record) ? setType.countByTable(record) : NONE;
    }

    public int memberAt(int record, int set, int place) throws IndexOutOfBoundsException {
        requireRecord(record);
        SetType setType = requireSet(set);
        if (!setType.owns(record)) {
            throw new IndexOutOfBoundsException("the record does not have the owner type");
        }
        if (place < 0 || place >= setType.countByRing(record)) {
            throw new IndexOutOfBoundsException("the set has not so many members");
        }
        return setType.memberByPlace(record, place);
    }

    public int wouldErase(int record, int way) throws IndexOutOfBoundsException, IllegalArgumentException {
        requireRecord(record);
        requireWay(way);
        return gatherDoomed(record, way);
    }

    // What the calls share.

    private void requireType(int type) {
        if (type < 0 || type >= RECORD_TYPES) {
            throw new IllegalArgumentException("no such record type");
        }
    }

    private void requireValue(int value) {
        if (value < -GREATEST_VALUE || value > GREATEST_VALUE) {
            throw new IllegalArgumentException("the value is out of range");
        }
    }

    private void requireWay(int way) {
        if (way < ERASE_ALONE || way > ERASE_ALL) {
            throw new IllegalArgumentException("no such way");
        }
    }

    private SetType requireSet(int set) {
        if (set < 0 || set >= sets.size()) {
            throw new IndexOutOfBoundsException("no such set type");
        }
        return sets.get(set);
    }

    private void requireRecord(int record) {
        if (types.at(record) == NONE) {
            throw new IndexOutOfBoundsException("no such record");
        }
    }

    private void requireRunUnit() {
        if (runUnit == NONE) {
            throw new IllegalStateException("the run unit has no current record");
        }
    }

    private void requireMembership(SetType setType) {
        requireRunUnit();
        if (!setType.isMember(runUnit)) {
            throw new IllegalStateException("the record is no member of such a set");
        }
    }

    private boolean lacksSetFor(int type) {
        for (int set = 0; set < sets.size(); set++) {
            SetType setType = sets.get(set);
            if (setType.takesAtStore(type) && setType.current == NONE) {
                return true;
            }
        }
        return false;
    }

    /** Takes any number, so that every finding call can hand on what it found, NONE too. */
    private int makeCurrent(int record) {
        int type = types.at(record);
        if (type == NONE) {
            return NONE;
        }
        runUnit = record;
        currentOfTypes.put(type, record);
        for (int set = 0; set < sets.size(); set++) {
            SetType setType = sets.get(set);
            if (setType.ring.at(record) != NONE) {
                setType.current = record;
            }
        }
        return record;
    }

    /** Answers NONE if the way does not let the record be erased. */
    private int gatherDoomed(int record, int way) {
        if (way == ERASE_ALONE && hasMembers(record)) {
            return NONE;
        }
        doomed.clear();
        doomed.add(record);
        for (int place = 0; place < MOST_RECORDS && place < doomed.size; place++) {
            gatherMembers(doomed.at(place), way);
        }
        return doomed.size;
    }

    private void gatherMembers(int owner, int way) {
        for (int set = 0; set < sets.size(); set++) {
            SetType setType = sets.get(set);
            if (setType.owns(owner) && setType.erasesMembers(way)) {
                setType.gather(owner, doomed);
            }
        }
    }

    private boolean hasMembers(int record) {
        for (int set = 0; set < sets.size(); set++) {
            SetType setType = sets.get(set);
            if (setType.owns(record) && setType.countByRing(record) > 0) {
                return true;
            }
        }
        return false;
    }

    private void remove(int record) {
        for (int set = 0; set < sets.size(); set++) {
            sets.get(set).forget(record);
        }
        int type = types.at(record);
        if (currentOfTypes.at(type) == record) {
            currentOfTypes.put(type, NONE);
        }
        if (runUnit == record) {
            runUnit = NONE;
        }
        types.put(record, NONE);
        present--;
    }

    /** A row of numbers, whose indices are looked at here, so that no caller can go outside of it. */
    private static final class Row {
        private final int[] cells;

        Row(int length) {
            cells = new int[Math.max(length, 0)];
            Arrays.fill(cells, NONE);
        }

        int at(int place) {
            return place >= 0 && place < cells.length ? cells[place] : NONE;
        }

        void put(int place, int number) {
            if (place >= 0 && place < cells.length) {
                cells[place] = number;
            }
        }

        void clear() {
            Arrays.fill(cells, NONE);
        }
    }

    /** Records that are to be erased together, each once, even where sets of two types form a circle. */
    private static final class Gathering {
        private final Row order = new Row(MOST_RECORDS);
        private final Row places = new Row(MOST_RECORDS);
        private int size = 0;

        void clear() {
            places.clear();
            size = 0;
        }

        void add(int record) {
            if (places.at(record) == NONE && size < MOST_RECORDS) {
                places.put(record, size);
                order.put(size, record);
                size++;
            }
        }

        int at(int place) {
            return order.at(place);
        }
    }

    /** A set type with all its rings; a record stands in one of them at most, since its types differ. */
    private static final class SetType {
        private final int ownerType;
        private final int memberType;
        private final int insertion;
        private final boolean automatic;
        private final int retention;
        /** For each record the owner of the ring in which it stands; for an owner itself. */
        private final Row ring = new Row(MOST_RECORDS);
        private final Row behind = new Row(MOST_RECORDS);
        private final Row ahead = new Row(MOST_RECORDS);
        private int current = NONE;

        SetType(int ownerType, int memberType, int insertion, boolean automatic, int retention) {
            this.ownerType = ownerType;
            this.memberType = memberType;
            this.insertion = insertion;
            this.automatic = automatic;
            this.retention = retention;
        }

        boolean owns(int record) {
            return record != NONE && ring.at(record) == record;
        }

        boolean isMember(int record) {
            int owner = ring.at(record);
            return owner != NONE && owner != record;
        }

        boolean takesAtStore(int type) {
            return automatic && memberType == type;
        }

        boolean erasesMembers(int way) {
            return way == ERASE_ALL || way != ERASE_ALONE && retention != RETENTION_OPTIONAL;
        }

        int currentOwner() {
            return ring.at(current);
        }

        /** Sees to a record that was just stored. */
        void admit(int record, int type, Row values) {
            if (type == ownerType) {
                ring.put(record, record);
                link(record, record);
            }
            if (takesAtStore(type)) {
                insert(record, currentOwner(), values);
            }
        }

        void insert(int record, int owner, Row values) {
            int front = frontFor(owner, values.at(record), values);
            int back = behind.at(front);
            link(front, record);
            link(record, back);
            ring.put(record, owner);
        }

        /** Answers the record of the ring, maybe the owner, right behind which a new member belongs. */
        private int frontFor(int owner, int value, Row values) {
            // A record that was just taken out stands in no ring, even while it is still the current one.
            int mark = ring.at(current) == owner ? current : owner;
            switch (insertion) {
                case INSERT_LAST:
                    return ahead.at(owner);
                case INSERT_NEXT:
                    return mark;
                case INSERT_PRIOR:
                    return ahead.at(mark);
                case INSERT_SORTED:
                    return frontBySorting(owner, value, values);
                default:
                    return owner;
            }
        }

        private int frontBySorting(int owner, int value, Row values) {
            int front = owner;
            for (int step = 0; step < MOST_RECORDS; step++) {
                int next = behind.at(front);
                if (next == owner || values.at(next) > value) {
                    return front;
                }
                front = next;
            }
            return front;
        }

        private void link(int front, int back) {
            behind.put(front, back);
            ahead.put(back, front);
        }

        /** Leaves the current record as it is, since some who are taken out come back at once. */
        void takeOut(int member) {
            link(ahead.at(member), behind.at(member));
            ring.put(member, NONE);
        }

        void release(int member) {
            takeOut(member);
            if (current == member) {
                current = NONE;
            }
        }

        void sortAnew(int record, Row values) {
            if (insertion == INSERT_SORTED && isMember(record)) {
                int owner = ring.at(record);
                takeOut(record);
                insert(record, owner, values);
            }
        }

        /** Ends all that the set type knows of a record that is erased. */
        void forget(int record) {
            if (owns(record)) {
                releaseMembers(record);
                ring.put(record, NONE);
            } else if (isMember(record)) {
                takeOut(record);
            }
            if (current == record) {
                current = NONE;
            }
        }

        private void releaseMembers(int owner) {
            for (int step = 0; step < MOST_RECORDS && behind.at(owner) != owner; step++) {
                release(behind.at(owner));
            }
        }

        void gather(int owner, Gathering gathering) {
            int at = behind.at(owner);
            for (int step = 0; step < MOST_RECORDS && at != owner; step++) {
                gathering.add(at);
                at = behind.at(at);
            }
        }

        /** Answers NONE where the ring comes to its owner, or where the record stands in no ring. */
        int neighbour(int record, boolean prior) {
            int found = prior ? ahead.at(record) : behind.at(record);
            return found == ring.at(record) ? NONE : found;
        }

        int firstWithValue(int owner, int value, Row values) {
            int at = behind.at(owner);
            for (int step = 0; step < MOST_RECORDS && at != owner; step++) {
                if (values.at(at) == value) {
                    return at;
                }
                at = behind.at(at);
            }
            return NONE;
        }

        int countByRing(int owner) {
            int count = 0;
            int at = behind.at(owner);
            while (at != owner && count < MOST_RECORDS) {
                count++;
                at = behind.at(at);
            }
            return count;
        }

        int countByTable(int owner) {
            int count = 0;
            for (int record = 0; record < MOST_RECORDS; record++) {
                if (record != owner && ring.at(record) == owner) {
                    count++;
                }
            }
            return count;
        }

        int memberByPlace(int owner, int place) {
            int at = behind.at(owner);
            for (int step = 0; step < place && step < MOST_RECORDS; step++) {
                at = behind.at(at);
            }
            return at;
        }
    }
}
