/** The limits: "there are at most 6" set types, and "at most 60 are stored in all", also since some were erased. */
public final class LimitTest {
    /** An owner, where the types 0 and 1 are the owner's and the member's, and 59 of the other type; 59 is the last. */
    static final String SIXTY = sixty();

    private static String sixty() {
        StringBuilder row = new StringBuilder("store(0, 0);");
        for (int record = 1; record < 60; record++) {
            row.append("store(1, ").append(record).append(");");
        }
        return row.toString();
    }

    public static void main(String[] args) {
        setTypesAreNumbered();
        theSeventhSetType();
        refusedOnesAreNoSetTypes();
        noSetTypeBehindARecord();
        recordsAreNumbered();
        theSixtyFirstRecord();
        theSixtyFirstWhenSomeWereErased();
        refusedOnesAreNoRecords();
        eachOfSixSetTypes();
        fullSet();
        Check.end("LimitTest");
    }

    /** "Set types are numbered from 0 on". */
    private static void setTypesAreNumbered() {
        for (int count = 0; count < 6; count++) {
            Scene scene = new Scene("declare(1, 2, 3, false, 1);".repeat(count));
            scene.asks("setTypes()", count);
            scene.due("declare(3, 0, 4, true, 2)", count);
            scene.then("declare(3, 0, 4, true, 2)").due("currentIn(" + count + ")", -1);
        }
    }

    /** "if there are 6 set types". */
    private static void theSeventhSetType() {
        Scene five = new Scene("declare(0, 1, 0, true, 0);".repeat(5));
        five.due("declare(0, 1, 0, true, 0)", 5);
        Scene six = five.then("declare(2, 3, 1, true, 2)");
        six.state("declare(0, 1, 0, true, 0)", "declare(3, 2, 4, false, 2)", "declare(2, 3, 1, true, 2)");
        six.asks("setTypes()", 6);
        six.index("currentIn(6)");
        Scene mixed = new Scene("declare(0, 1, 0, true, 0); declare(1, 2, 1, true, 1); declare(2, 3, 2, true, 2); declare(3, 0, 3, false, 0);"
                + "declare(0, 2, 4, false, 1); declare(1, 3, 0, false, 2)");
        mixed.state("declare(0, 1, 0, true, 0)", "declare(2, 1, 1, false, 1)");
    }

    /** A refused declaration is none of the six. */
    private static void refusedOnesAreNoSetTypes() {
        Subject subject = new Subject();
        for (int set = 0; set < 6; set++) {
            for (String refused : new String[] {"declare(0, 0, 0, true, 0)", "declare(4, 0, 0, true, 0)", "declare(0, 1, 5, true, 0)"}) {
                Check.equal(refused, "throws.IllegalArgumentException", subject.answer(refused));
            }
            Check.equal("the set type " + set, String.valueOf(set), subject.answer("declare(0, 1, 0, true, 0)"));
        }
        Check.equal("a seventh", "throws.IllegalStateException", subject.answer("declare(0, 1, 0, true, 0)"));
        Check.equal("another seventh", "throws.IllegalStateException", subject.answer("declare(0, 1, 0, true, 0)"));
        Check.equal("setTypes", "6", subject.answer("setTypes()"));
    }

    /** "or a record was stored": also if it is erased since, but not if it was refused. */
    private static void noSetTypeBehindARecord() {
        new Scene("store(0, 0)").state("declare(0, 1, 0, true, 0)");
        new Scene("declare(0, 1, 0, true, 0); store(2, 0)").state("declare(0, 1, 0, true, 0)", "declare(2, 3, 1, false, 2)");
        new Scene("store(0, 0); erase(0)").state("declare(0, 1, 0, true, 0)");
        new Scene("declare(0, 1, 0, true, 0); store(0, 0); store(1, 0); find(0); erase(2)").state("declare(0, 1, 0, true, 0)");
        Subject subject = new Subject();
        subject.answer("declare(0, 1, 0, true, 0)");
        Check.equal("no current set", "throws.IllegalStateException", subject.answer("store(1, 0)"));
        Check.equal("no such type", "throws.IllegalArgumentException", subject.answer("store(4, 0)"));
        Check.equal("declare behind refused records", "1", subject.answer("declare(0, 1, 0, true, 0)"));
    }

    /** "Records are numbered from 0 on, in the order in which they are stored". */
    private static void recordsAreNumbered() {
        Subject subject = new Subject();
        for (int record = 0; record < 60; record++) {
            Check.equal("the record " + record, String.valueOf(record), subject.answer("store(" + record * 7 % 4 + ", " + record + ")"));
            Check.equal("records behind " + record, String.valueOf(record + 1), subject.answer("records()"));
        }
        Scene erased = new Scene("store(0, 1); store(0, 2); store(0, 3); erase(0)");
        erased.due("store(0, 4)", 3);
        erased.then("find(0); erase(0)").due("store(0, 4)", 3);
        erased.then("find(0); erase(0); find(1); erase(0)").due("store(0, 4)", 3);
    }

    /** "if 60 records were stored". */
    private static void theSixtyFirstRecord() {
        Scene most = new Scene("declare(0, 1, 1, true, 2);" + SIXTY);
        most.due("records()", 60);
        most.state("store(0, 0)", "store(1, 0)", "store(2, -1000)", "store(3, 1000)");
        Scene oneLess = new Scene("store(2, 1);".repeat(59));
        oneLess.due("store(3, 4)", 59);
        oneLess.then("store(3, 4)").state("store(3, 4)");
        oneLess.then("store(3, 4)").due("valueOf(59)", 4);
    }

    /** "60 records were stored", "erased ones not counted" by records() alone. */
    private static void theSixtyFirstWhenSomeWereErased() {
        Scene lastErased = new Scene(SIXTY + "erase(0)");
        lastErased.state("store(0, 0)");
        lastErased.due("records()", 59);
        Scene firstErased = new Scene(SIXTY + "find(0); erase(0)");
        firstErased.state("store(0, 0)");
        firstErased.due("records()", 59);
        Scene allErased = new Scene("declare(0, 1, 1, true, 2);" + SIXTY + "find(0); erase(2)");
        allErased.due("records()", 0);
        allErased.state("store(0, 0)", "store(3, 0)");
        Scene onTheWay = new Scene("store(0, 0); erase(0);".repeat(59));
        onTheWay.due("records()", 0);
        onTheWay.due("store(0, 0)", 59);
        onTheWay.then("store(0, 0)").state("store(0, 0)");
    }

    /** A refused record is none of the sixty. */
    private static void refusedOnesAreNoRecords() {
        Subject subject = new Subject();
        subject.answer("declare(2, 1, 1, true, 2)");
        for (int record = 0; record < 60; record++) {
            Check.equal("no current set", "throws.IllegalStateException", subject.answer("store(1, 0)"));
            Check.equal("no such value", "throws.IllegalArgumentException", subject.answer("store(0, 1001)"));
            Check.equal("the record " + record, String.valueOf(record), subject.answer("store(0, " + record + ")"));
        }
        Check.equal("one more", "throws.IllegalStateException", subject.answer("store(0, 0)"));
        Check.equal("records", "60", subject.answer("records()"));
    }

    /** Each of six set types has sets and currents of its own. */
    private static void eachOfSixSetTypes() {
        String declared = "declare(0, 1, 0, false, 2); declare(0, 1, 1, false, 2); declare(0, 1, 4, false, 2); declare(0, 1, 1, true, 2);"
            + "declare(2, 1, 1, false, 2); declare(1, 3, 1, false, 2);";
        Scene scene = new Scene(declared + "store(0, 0); store(2, 0); store(1, 30); store(1, 20); store(1, 10);"
            + "find(2); connect(0); connect(1); connect(2); find(3); connect(0); connect(1); connect(2); find(4); connect(4); connect(2)");
        scene.ring(0, 0, 3, 2);
        scene.ring(0, 1, 2, 3);
        scene.ring(0, 2, 4, 3, 2);
        scene.ring(0, 3, 2, 3, 4);
        scene.ring(1, 4, 4);
        scene.ring(4, 5);
        scene.currents(4, 0, 4, 1, -1, 3, 3, 4, 4, 4, 4);
    }

    /** A set of 59 members and its owner are all sixty records. */
    private static void fullSet() {
        int[] rising = new int[59];
        int[] falling = new int[59];
        for (int place = 0; place < 59; place++) {
            rising[place] = place + 1;
            falling[place] = 59 - place;
        }
        new Scene("declare(0, 1, 0, true, 2);" + SIXTY).ring(0, 0, falling);
        new Scene("declare(0, 1, 1, true, 2);" + SIXTY).ring(0, 0, rising);
        new Scene("declare(0, 1, 2, true, 2);" + SIXTY).ring(0, 0, rising);
        new Scene("declare(0, 1, 3, true, 2);" + SIXTY).ring(0, 0, falling);
        Scene sorted = new Scene("declare(0, 1, 4, true, 2);" + SIXTY);
        sorted.ring(0, 0, rising);
        sorted.due("findValue(0, 59)", 59);
        sorted.due("wouldErase(0, 2)", 60);
        sorted.due("wouldErase(0, 1)", 1);
        sorted.due("disconnect(0)", 58);
        sorted.due("reconnect(0, 0)", 59);
        Scene apart = new Scene("declare(0, 1, 1, false, 2);" + SIXTY + "find(0);"
            + connectAll(58) + "find(0); find(59)");
        apart.due("connect(0)", 59);
        new Scene("declare(0, 1, 1, true, 1);" + SIXTY).due("wouldErase(0, 1)", 60);
        new Scene("declare(0, 1, 1, true, 0);" + SIXTY + "find(0)").due("erase(1)", 60);
    }

    private static String connectAll(int last) {
        StringBuilder row = new StringBuilder();
        for (int record = 1; record <= last; record++) {
            row.append("find(").append(record).append("); connect(0);");
        }
        return row.toString();
    }
}
