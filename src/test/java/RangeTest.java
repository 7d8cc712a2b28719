/**
 * The ranges of all arguments: the value just inside, the one just outside, the least and the greatest
 * int. Every refusal is looked at with all that can be asked ahead of it and behind it.
 */
public final class RangeTest {
    private static final String[] NO_TYPES = {"-1", "4", "least", "greatest"};
    private static final String[] NO_VALUES = {"-1001", "1001", "least", "greatest"};
    private static final String[] NO_WAYS = {"-1", "3", "least", "greatest"};

    /** The owner 0 with its members 1 and 2, and the owner 3 without any; 1 is current. */
    private static final String PAIR = "declare(0, 1, 1, true, 2); store(0, 7); store(1, 8); store(1, 9); store(0, 6); find(1);";

    public static void main(String[] args) {
        typesOfDeclare();
        insertionOfDeclare();
        retentionOfDeclare();
        automaticOfDeclare();
        typeOfStore();
        valueOfStore();
        valueOfModify();
        wayOfErase();
        wayOfWouldErase();
        typesOfFindOfAndCurrentOf();
        setTypesThereAreNot();
        setTypesThereAre();
        recordsThereAreNot();
        recordsThereAre();
        ownersOfReconnect();
        placesOfMemberAt();
        anyNumberOfFind();
        anyValueOfFindValue();
        Check.end("RangeTest");
    }

    /** "owner: 0 to 3: the owner type", "member: 0 to 3: the member type, another one". */
    private static void typesOfDeclare() {
        Scene fresh = new Scene("");
        Scene one = new Scene("declare(2, 3, 0, true, 0)");
        for (int owner = 0; owner < 4; owner++) {
            for (int member = 0; member < 4; member++) {
                String call = "declare(" + owner + ", " + member + ", 0, false, 0)";
                if (owner == member) {
                    fresh.argument(call);
                    one.argument(call);
                } else {
                    fresh.due(call, 0);
                    one.due(call, 1);
                    ownerAndMemberAre(owner, member);
                }
            }
        }
        for (String type : NO_TYPES) {
            for (String other : new String[] {"0", "3"}) {
                fresh.argument("declare(" + type + ", " + other + ", 0, false, 0)", "declare(" + other + ", " + type + ", 0, false, 0)");
                one.argument("declare(" + type + ", " + other + ", 0, false, 0)", "declare(" + other + ", " + type + ", 0, false, 0)");
            }
        }
    }

    private static void ownerAndMemberAre(int owner, int member) {
        Scene four = new Scene("declare(" + owner + ", " + member + ", 0, false, 0); store(0, 0); store(1, 0); store(2, 0); store(3, 0)");
        for (int record = 0; record < 4; record++) {
            four.due("members(" + record + ", 0)", record == owner ? 0 : -1);
            Scene found = four.then("find(" + record + ")");
            if (record == member) {
                found.due("connect(0)", 1);
            } else {
                found.state("connect(0)");
            }
        }
    }

    /** "insertion: 0 to 4": each one, by the place into which a third member comes. */
    private static void insertionOfDeclare() {
        Scene fresh = new Scene("");
        int[][] due = {{3, 1, 2}, {1, 2, 3}, {1, 3, 2}, {3, 1, 2}, {1, 3, 2}};
        String[] ahead = {"find(2); connect(0); find(1); connect(0);", "find(1); connect(0); find(2); connect(0);",
            "find(1); connect(0); find(2); connect(0);", "find(2); connect(0); find(1); connect(0);", "find(1); connect(0); find(2); connect(0);"};
        for (int insertion = 0; insertion < 5; insertion++) {
            fresh.due("declare(0, 1, " + insertion + ", false, 0)", 0);
            new Scene("declare(0, 1, " + insertion + ", false, 0); store(0, 0); store(1, 10); store(1, 30); store(1, 20);" + ahead[insertion]
                    + "find(1); find(3); connect(0)").ring(0, 0, due[insertion]);
        }
        for (String insertion : new String[] {"-1", "5", "least", "greatest"}) {
            fresh.argument("declare(0, 1, " + insertion + ", false, 0)", "declare(3, 2, " + insertion + ", true, 2)");
        }
    }

    /** "retention: 0 to 2": each one, by what it lets be done with a member. */
    private static void retentionOfDeclare() {
        Scene fresh = new Scene("");
        for (int retention = 0; retention < 3; retention++) {
            fresh.due("declare(0, 1, 0, false, " + retention + ")", 0);
            Scene pair = new Scene("declare(0, 1, 0, true, " + retention + "); store(0, 0); store(1, 0)");
            if (retention == 2) {
                pair.due("disconnect(0)", 0);
            } else {
                pair.state("disconnect(0)");
            }
            if (retention == 0) {
                pair.state("reconnect(0, 0)");
            } else {
                pair.due("reconnect(0, 0)", 1);
            }
            pair.due("wouldErase(0, 1)", retention == 2 ? 1 : 2);
        }
        for (String retention : new String[] {"-1", "3", "least", "greatest"}) {
            fresh.argument("declare(0, 1, 0, false, " + retention + ")", "declare(3, 2, 4, true, " + retention + ")");
        }
    }

    /** "automatic: whether it is automatic". */
    private static void automaticOfDeclare() {
        new Scene("declare(0, 1, 0, true, 0); store(0, 0); store(1, 0)").ring(0, 0, 1);
        new Scene("declare(0, 1, 0, false, 0); store(0, 0); store(1, 0)").ring(0, 0);
    }

    /** "type: 0 to 3" of store, and "Returns 0 to 3" of typeOf. */
    private static void typeOfStore() {
        Scene fresh = new Scene("");
        Scene one = new Scene("store(1, 1)");
        for (int type = 0; type < 4; type++) {
            fresh.due("store(" + type + ", 5)", 0);
            one.due("store(" + type + ", 5)", 1);
            one.then("store(" + type + ", 5)").asks("typeOf(1)", type);
        }
        for (String type : NO_TYPES) {
            fresh.argument("store(" + type + ", 5)");
            one.argument("store(" + type + ", 5)");
        }
    }

    /** "value: -1000 to 1000" of store. */
    private static void valueOfStore() {
        Scene pair = new Scene(PAIR);
        for (int value : new int[] {-1000, -999, -1, 0, 1, 999, 1000}) {
            pair.due("store(1, " + value + ")", 4);
            pair.then("store(1, " + value + ")").asks("valueOf(4)", value);
        }
        for (String value : NO_VALUES) {
            new Scene("").argument("store(0, " + value + ")", "store(3, " + value + ")");
            pair.argument("store(0, " + value + ")", "store(1, " + value + ")");
        }
    }

    /** "value: -1000 to 1000" of modify. */
    private static void valueOfModify() {
        Scene pair = new Scene(PAIR);
        for (int value : new int[] {-1000, -999, -1, 0, 1, 999, 1000}) {
            pair.due("modify(" + value + ")", 8);
            pair.then("modify(" + value + ")").asks("valueOf(1)", value);
            pair.then("modify(" + value + ")").due("modify(0)", value);
        }
        for (String value : NO_VALUES) {
            pair.argument("modify(" + value + ")");
        }
    }

    /** "way: 0 to 2" of erase. */
    private static void wayOfErase() {
        Scene pair = new Scene(PAIR);
        for (int way = 0; way < 3; way++) {
            pair.due("erase(" + way + ")", 1);
        }
        for (String way : NO_WAYS) {
            pair.argument("erase(" + way + ")");
            pair.then("find(0)").argument("erase(" + way + ")");
        }
    }

    /** "way: 0 to 2" of wouldErase. */
    private static void wayOfWouldErase() {
        Scene pair = new Scene(PAIR);
        int[] due = {-1, 1, 3};
        for (int way = 0; way < 3; way++) {
            pair.asks("wouldErase(1, " + way + ")", 1);
            pair.asks("wouldErase(0, " + way + ")", due[way]);
        }
        for (String way : NO_WAYS) {
            pair.argument("wouldErase(0, " + way + ")", "wouldErase(1, " + way + ")");
        }
    }

    /** "type: 0 to 3" of findOf and of currentOf. */
    private static void typesOfFindOfAndCurrentOf() {
        Scene four = new Scene("store(3, 0); store(2, 0); store(1, 0); store(0, 0)");
        for (int type = 0; type < 4; type++) {
            four.due("findOf(" + type + ", true)", 3 - type);
            four.asks("currentOf(" + type + ")", 3 - type);
            four.none("findOf(" + type + ", false)");
        }
        for (String type : NO_TYPES) {
            new Scene("").argument("findOf(" + type + ", true)", "findOf(" + type + ", false)", "currentOf(" + type + ")");
            four.argument("findOf(" + type + ", true)", "findOf(" + type + ", false)", "currentOf(" + type + ")");
        }
    }

    /** "Throws IndexOutOfBoundsException if there is no such set type", from no set type to six. */
    private static void setTypesThereAreNot() {
        String[] calls = {"connect(#)", "disconnect(#)", "reconnect(#, 0)", "findEnd(#, false)", "findEnd(#, true)", "findNext(#, false)",
            "findNext(#, true)", "findOwner(#)", "findValue(#, 8)", "currentIn(#)", "ownerOf(1, #)", "members(0, #)", "membersByTable(0, #)",
            "memberAt(0, #, 0)"};
        for (int count : new int[] {0, 1, 6}) {
            Scene scene = new Scene("declare(0, 1, 1, true, 2);".repeat(count) + "store(0, 7); store(1, 8)");
            for (String call : calls) {
                for (String set : new String[] {"-1", String.valueOf(count), "least", "greatest"}) {
                    scene.index(call.replace("#", set));
                }
            }
        }
        Scene fresh = new Scene("");
        for (int call = 0; call < 10; call++) {
            fresh.index(calls[call].replace("#", "0"), calls[call].replace("#", "-1"), calls[call].replace("#", "greatest"));
        }
    }

    /** "set: a set type": the first and the last one, of one and of six. */
    private static void setTypesThereAre() {
        for (int count : new int[] {1, 6}) {
            Scene apart = new Scene("declare(0, 1, 1, false, 2);".repeat(count) + "store(0, 7); store(1, 8)");
            Scene joined = new Scene("declare(0, 1, 1, true, 2);".repeat(count) + "store(0, 7); store(1, 8)");
            Scene owner = joined.then("find(0)");
            for (int set : new int[] {0, count - 1}) {
                String of = "(" + set;
                apart.due("connect" + of + ")", 1);
                joined.due("disconnect" + of + ")", 0);
                joined.due("reconnect" + of + ", 0)", 1);
                owner.due("findEnd" + of + ", false)", 1);
                owner.due("findEnd" + of + ", true)", 1);
                owner.due("findNext" + of + ", false)", 1);
                owner.due("findNext" + of + ", true)", 1);
                joined.due("findOwner" + of + ")", 0);
                owner.due("findValue" + of + ", 8)", 1);
                joined.asks("currentIn" + of + ")", 1);
                joined.asks("ownerOf(1, " + set + ")", 0);
                joined.asks("members(0, " + set + ")", 1);
                joined.asks("membersByTable(0, " + set + ")", 1);
                joined.asks("memberAt(0, " + set + ", 0)", 1);
            }
        }
    }

    private static final String[] CALLS_OF_RECORDS = {"typeOf(#)", "valueOf(#)", "ownerOf(#, 0)", "members(#, 0)", "membersByTable(#, 0)",
        "memberAt(#, 0, 0)", "wouldErase(#, 0)", "wouldErase(#, 2)", "reconnect(0, #)"};

    /** "Throws IndexOutOfBoundsException if there is no such record": none, one, three, sixty, and erased ones. */
    private static void recordsThereAreNot() {
        String[] scenes = {"", "store(0, 7)", "store(0, 7); store(1, 8); store(1, 9)", LimitTest.SIXTY};
        String[] next = {"0", "1", "3", "60"};
        for (int place = 0; place < scenes.length; place++) {
            Scene scene = new Scene("declare(0, 1, 1, true, 2);" + scenes[place]);
            for (String call : CALLS_OF_RECORDS) {
                for (String record : new String[] {"-1", next[place], "60", "least", "greatest"}) {
                    scene.index(call.replace("#", record));
                }
            }
        }
        for (int erased = 0; erased < 4; erased++) {
            // An owner and a member stay, whichever is erased, and the member is current.
            String last = erased == 1 ? "find(2)" : "find(1)";
            String owners = "declare(0, 1, 1, true, 2); store(0, 7); store(1, 8); store(1, 9); store(0, 6);";
            Scene scene = new Scene(owners + "find(" + erased + "); erase(1);" + last);
            for (String call : CALLS_OF_RECORDS) {
                scene.index(call.replace("#", String.valueOf(erased)));
            }
        }
    }

    /** "record: the record": the first and the last one there is, of one, of three and of sixty. */
    private static void recordsThereAre() {
        new Scene("store(3, -4)").asks("typeOf(0)", 3);
        new Scene("store(3, -4)").asks("valueOf(0)", -4);
        new Scene("store(3, -4)").asks("wouldErase(0, 0)", 1);
        Scene three = new Scene("declare(0, 1, 1, true, 2); store(0, 7); store(1, 8); store(1, 9)");
        Scene sixty = new Scene("declare(0, 1, 1, true, 2);" + LimitTest.SIXTY);
        three.asks("typeOf(0)", 0);
        three.asks("typeOf(2)", 1);
        three.asks("valueOf(0)", 7);
        three.asks("valueOf(2)", 9);
        three.asks("ownerOf(0, 0)", -1);
        three.asks("ownerOf(2, 0)", 0);
        three.asks("members(0, 0)", 2);
        three.asks("members(2, 0)", -1);
        three.asks("membersByTable(0, 0)", 2);
        three.asks("membersByTable(2, 0)", -1);
        three.asks("wouldErase(2, 0)", 1);
        sixty.due("typeOf(59)", 1);
        sixty.due("valueOf(59)", 59);
        sixty.due("ownerOf(59, 0)", 0);
        sixty.due("members(59, 0)", -1);
        sixty.due("membersByTable(59, 0)", -1);
        sixty.due("wouldErase(59, 0)", 1);
        sixty.due("memberAt(0, 0, 58)", 59);
        // The last record that can be stored is an owner here.
        Scene owner = new Scene("declare(0, 1, 1, false, 2); store(1, 0);" + "store(0, 5);".repeat(59) + "find(0); connect(0)");
        owner.due("ownerOf(0, 0)", 59);
        owner.due("members(59, 0)", 1);
        owner.due("membersByTable(59, 0)", 1);
        owner.due("memberAt(59, 0, 0)", 0);
        owner.due("wouldErase(59, 2)", 2);
        owner.due("reconnect(0, 1)", 1);
        owner.then("reconnect(0, 1)").due("reconnect(0, 59)", 1);
    }

    /** "owner: the number of a record of the owner type". */
    private static void ownersOfReconnect() {
        Scene scene = new Scene("declare(0, 1, 1, true, 2); declare(2, 1, 1, false, 2); store(0, 7); store(2, 7); store(3, 7); store(0, 7);"
                + "store(1, 8); connect(1); find(0); store(1, 9)");
        scene.due("reconnect(0, 0)", 1);
        scene.due("reconnect(0, 3)", 2);
        // Of the other owner type, of no set, a member, the record itself, and the next number.
        scene.index("reconnect(0, 1)", "reconnect(0, 2)", "reconnect(0, 4)", "reconnect(0, 5)", "reconnect(0, 6)");
        scene.index("reconnect(0, -1)", "reconnect(0, 60)", "reconnect(0, least)", "reconnect(0, greatest)");
        Scene other = scene.then("find(4)");
        other.due("reconnect(1, 1)", 1);
        other.index("reconnect(1, 0)", "reconnect(1, 3)");
    }

    /** "place: 0 for the first one", and refused if "the set has not so many members": none, one, two, 59. */
    private static void placesOfMemberAt() {
        String[] scenes = {"", "store(1, 1)", "store(1, 1); store(1, 2)", "store(1, 3);".repeat(59)};
        int[] counts = {0, 1, 2, 59};
        for (int place = 0; place < scenes.length; place++) {
            Scene scene = new Scene("declare(0, 1, 1, true, 2); store(0, 7);" + scenes[place]);
            if (counts[place] > 0) {
                scene.asks("memberAt(0, 0, 0)", 1);
                scene.asks("memberAt(0, 0, " + (counts[place] - 1) + ")", counts[place]);
            }
            scene.index("memberAt(0, 0, " + counts[place] + ")", "memberAt(0, 0, -1)", "memberAt(0, 0, 60)");
            scene.index("memberAt(0, 0, least)", "memberAt(0, 0, greatest)");
        }
    }

    /** "record: any number" of find. */
    private static void anyNumberOfFind() {
        Scene pair = new Scene(PAIR);
        pair.due("find(0)", 0);
        pair.due("find(3)", 3);
        pair.none("find(-1)", "find(4)", "find(59)", "find(60)", "find(least)", "find(greatest)");
        new Scene("").none("find(0)", "find(-1)", "find(least)", "find(greatest)");
        Scene sixty = new Scene(LimitTest.SIXTY);
        sixty.due("find(59)", 59);
        sixty.none("find(60)", "find(61)");
    }

    /** "value: any number" of findValue: the edges of what a value can be, and what is no value at all. */
    private static void anyValueOfFindValue() {
        Scene scene = new Scene("declare(0, 1, 1, true, 2); store(0, 7); store(1, 1000); store(1, -1000); store(1, -1); store(1, 0); find(0)");
        scene.due("findValue(0, 1000)", 1);
        scene.due("findValue(0, -1000)", 2);
        scene.due("findValue(0, -1)", 3);
        scene.due("findValue(0, 0)", 4);
        scene.none("findValue(0, 1001)", "findValue(0, -1001)", "findValue(0, least)", "findValue(0, greatest)", "findValue(0, 7)");
    }
}
