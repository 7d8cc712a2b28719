import java.util.ArrayList;
import java.util.HashMap;
import java.util.List;
import java.util.Map;

/**
 * A database made by a row of calls, as often anew as it is wanted: so every answer can be asked of an
 * object that was used for fewer than 512 calls, and none depends on what was asked ahead of it.
 */
final class Scene {
    private static final String ARGUMENT = "throws.IllegalArgumentException";
    private static final String STATE = "throws.IllegalStateException";
    private static final String INDEX = "throws.IndexOutOfBoundsException";

    private final List<Call> calls;
    private final int setTypes;
    private final int stored;
    private List<Call> questions;
    /** What can be asked behind each following call, kept since many calls are looked at in one scene. */
    private final Map<String, List<String>> looks = new HashMap<>();

    Scene(String row) {
        this(Call.row(row));
    }

    private Scene(List<Call> calls) {
        this.calls = calls;
        setTypes = count("declare");
        stored = count("store");
        isNotRefused();
    }

    /** This scene with more calls behind its own. */
    Scene then(String row) {
        List<Call> more = new ArrayList<>(calls);
        more.addAll(Call.row(row));
        return new Scene(more);
    }

    private int count(String name) {
        int count = 0;
        for (Call call : calls) {
            count += call.is(name) ? 1 : 0;
        }
        return count;
    }

    private void isNotRefused() {
        Subject subject = new Subject();
        for (Call call : calls) {
            String answer = subject.answer(call);
            if (answer.contains(".")) {
                Check.equal(call.text + " of the scene" + name(), "no exception", answer);
            }
        }
    }

    private Subject make() {
        Subject subject = new Subject();
        for (Call call : calls) {
            subject.answer(call);
        }
        return subject;
    }

    private String name() {
        StringBuilder name = new StringBuilder();
        for (Call call : calls) {
            name.append(' ').append(call.text);
        }
        return name.length() < 300 ? name.toString() : name.substring(0, 300) + " ..";
    }

    /** One answer. */
    void due(String call, int want) {
        Check.equal(call + " behind" + name(), String.valueOf(want), make().answer(call));
    }

    /** Refusals for a wrong argument, with all that can be asked looked at ahead and behind. */
    void argument(String... refused) {
        changingNothing(ARGUMENT, refused);
    }

    /** Refusals for a wrong state, with all that can be asked looked at ahead and behind. */
    void state(String... refused) {
        changingNothing(STATE, refused);
    }

    /** Refusals for a number out of bounds, with all that can be asked looked at ahead and behind. */
    void index(String... refused) {
        changingNothing(INDEX, refused);
    }

    /** Calls that answer that there is none, with all that can be asked looked at ahead and behind. */
    void none(String... calls) {
        changingNothing("-1", calls);
    }

    /** A call that answers and changes nothing, with all that can be asked looked at ahead and behind. */
    void asks(String call, int want) {
        changingNothing(String.valueOf(want), call);
    }

    /** The current of the run unit, of the types 0 to 3, then of each set type. */
    void currents(int... want) {
        due("current()", want[0]);
        for (int type = 0; type < 4; type++) {
            due("currentOf(" + type + ")", want[1 + type]);
        }
        due("setTypes()", want.length - 5);
        for (int set = 0; set < want.length - 5; set++) {
            due("currentIn(" + set + ")", want[5 + set]);
        }
    }

    /** A whole ring: counted, asked by place, from its members, and walked round both ways. */
    void ring(int owner, int set, int... members) {
        String of = "(" + owner + ", " + set;
        due("members" + of + ")", members.length);
        due("membersByTable" + of + ")", members.length);
        for (int place = 0; place < members.length; place++) {
            due("memberAt" + of + ", " + place + ")", members[place]);
            due("ownerOf(" + members[place] + ", " + set + ")", owner);
        }
        equal("memberAt" + of + ", " + members.length + ")", INDEX, make());
        Subject forward = make();
        Subject backward = make();
        equal("find(" + owner + ")", String.valueOf(owner), forward);
        equal("find(" + owner + ")", String.valueOf(owner), backward);
        for (int step = 0; step < members.length; step++) {
            equal("findNext(" + set + ", false)", String.valueOf(members[step]), forward);
            equal("findNext(" + set + ", true)", String.valueOf(members[members.length - 1 - step]), backward);
        }
        equal("findNext(" + set + ", false)", "-1", forward);
        equal("findNext(" + set + ", true)", "-1", backward);
    }

    private void equal(String call, String want, Subject subject) {
        Check.equal(call + " behind" + name(), want, subject.answer(call));
    }

    private void changingNothing(String want, String... texts) {
        for (String text : texts) {
            Call call = new Call(text);
            Check.equal(text + " behind" + name(), want, make().answer(call));
            aheadAndBehind(call);
            whatFollows(call);
        }
    }

    /** In portions, each of a new object, so that none is asked more than is promised. */
    private void aheadAndBehind(Call call) {
        List<Call> all = questions();
        int portion = (Subject.MOST_CALLS - calls.size() - 1) / 2;
        for (int start = 0; start < all.size(); start += portion) {
            List<Call> some = all.subList(start, Math.min(start + portion, all.size()));
            Subject subject = make();
            List<String> ahead = answers(subject, some);
            subject.answer(call);
            same("behind " + call.text + " in" + name(), some, ahead, answers(subject, some));
        }
    }

    /** A change that no question shows yet would show behind a following call. */
    private void whatFollows(Call call) {
        for (Call next : followers()) {
            List<String> without = looks.computeIfAbsent(next.text, text -> lookBehind(next));
            same("behind " + call.text + " and " + next.text + " in" + name(), questions(), without, lookBehind(call, next));
        }
    }

    private List<String> lookBehind(Call... more) {
        List<Call> all = questions();
        int portion = Subject.MOST_CALLS - calls.size() - more.length;
        List<String> answers = new ArrayList<>();
        for (int start = 0; start < all.size(); start += portion) {
            Subject subject = make();
            String last = "";
            for (Call call : more) {
                last = subject.answer(call);
            }
            if (start == 0) {
                answers.add(last);
            }
            answers.addAll(answers(subject, all.subList(start, Math.min(start + portion, all.size()))));
        }
        return answers;
    }

    private static List<String> answers(Subject subject, List<Call> asked) {
        List<String> answers = new ArrayList<>();
        for (Call question : asked) {
            answers.add(subject.answer(question));
        }
        return answers;
    }

    private static void same(String what, List<Call> asked, List<String> want, List<String> got) {
        if (want.equals(got)) {
            Check.equal(what, "the same", "the same");
            return;
        }
        // Looks behind a following call hold its own answer ahead of those to the questions.
        int shift = want.size() - asked.size();
        for (int place = 0; place < want.size(); place++) {
            String question = place < shift ? "the last call" : asked.get(place - shift).text;
            Check.equal(question + " " + what, want.get(place), got.get(place));
        }
    }

    /** All that can be asked, with one number more than there are of set types, records and members. */
    private List<Call> questions() {
        if (questions == null) {
            questions = new ArrayList<>(Call.row("setTypes(); records(); current()"));
            ask("currentOf(#)", 3);
            ask("currentIn(#)", setTypes);
            for (int record = 0; record <= stored; record++) {
                ask("typeOf(" + record + ")", 0);
                ask("valueOf(" + record + ")", 0);
                ask("wouldErase(" + record + ", #)", 2);
                for (int set = 0; set < setTypes; set++) {
                    String of = "(" + record + ", " + set;
                    ask("ownerOf" + of + ")", 0);
                    ask("members" + of + ")", 0);
                    ask("membersByTable" + of + ")", 0);
                    // A following call may bring one member more.
                    ask("memberAt" + of + ", #)", mostMembers(record, set) + 1);
                }
            }
        }
        return questions;
    }

    private int mostMembers(int record, int set) {
        String answer = make().answer("members(" + record + ", " + set + ")");
        return answer.contains(".") ? 0 : Math.max(0, Integer.parseInt(answer));
    }

    private void ask(String text, int last) {
        for (int number = 0; number <= last; number++) {
            questions.add(new Call(text.replace("#", String.valueOf(number))));
        }
    }

    private List<Call> followers() {
        List<Call> calls = Call.row("declare(0, 1, 0, false, 0); modify(15); erase(0); erase(1); erase(2)");
        for (int type = 0; type < 4; type++) {
            calls.addAll(Call.row("store(#, 15); findOf(#, false)".replace("#", String.valueOf(type))));
        }
        for (int set = 0; set < setTypes; set++) {
            calls.addAll(Call.row("connect(#); disconnect(#); findEnd(#, false); findEnd(#, true); findNext(#, false); findNext(#, true); findOwner(#)"
                    .replace("#", String.valueOf(set))));
            for (int record = 0; record < stored; record++) {
                calls.add(new Call("reconnect(" + set + ", " + record + ")"));
            }
        }
        for (int record = 0; record < stored; record++) {
            calls.add(new Call("find(" + record + ")"));
        }
        return calls;
    }
}
