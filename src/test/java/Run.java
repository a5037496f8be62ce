import java.util.ArrayList;
import java.util.List;

/** A run of calls on one hall for one sentence of the document, kept so that it can be made again. */
final class Run {
    private final Check check;
    private final String sentence;
    private final List<String> calls = new ArrayList<>();
    private final Caller hall = new Caller();

    Run(Check check, String sentence) {
        this.check = check;
        this.sentence = sentence;
    }

    /** Calls that only lead to what is looked at: none of them may be refused. */
    Run does(String... told) {
        for (String one : told) {
            int answer = make(one);
            check.due(sentence + ": " + one + " is refused", isRefusal(one, answer), false);
        }
        return this;
    }

    private static boolean isRefusal(String told, int answer) {
        boolean answersFalse = answer == 0 && (told.startsWith("drop") || told.startsWith("consent"));
        return answer < 0 || answersFalse;
    }

    Run due(String told, int answer) {
        check.due(sentence + ": " + told, make(told), answer);
        return this;
    }

    int answers(String told) {
        return make(told);
    }

    /** The answer is due, and the hall is as one on which the call was never made, now and in what follows. */
    Run refused(String told, int answer) {
        check.due(sentence + ": " + told, hall.call(told), answer);
        Caller with = again();
        with.call(told);
        same(told, with.picture(), again().picture());
        Caller later = again();
        later.call(told);
        later.goOn();
        Caller without = again();
        without.goOn();
        same(told + " and going on", later.picture(), without.picture());
        return this;
    }

    Run deliverAll() {
        calls.addAll(hall.deliverAll());
        return this;
    }

    Run finish(int t) {
        does("propose(" + t + ", false)");
        return deliverAll();
    }

    /** The same calls on a hall of its own, to go on from here in more than one way. */
    Run fork() {
        Run fork = new Run(check, sentence);
        for (String one : calls) {
            fork.make(one);
        }
        return fork;
    }

    private int make(String told) {
        calls.add(told);
        return hall.call(told);
    }

    private Caller again() {
        Caller caller = new Caller();
        for (String one : calls) {
            caller.call(one);
        }
        return caller;
    }

    private void same(String told, List<String> got, List<String> want) {
        check.due(sentence + ": after " + told + " as many rows are seen", got.size(), want.size());
        for (int i = 0; i < got.size() && i < want.size(); i++) {
            if (!got.get(i).equals(want.get(i))) {
                check.due(sentence + ": after " + told + " " + got.get(i) + " where " + want.get(i), true, false);
                return;
            }
        }
    }
}
