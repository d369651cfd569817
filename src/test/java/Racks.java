import java.lang.reflect.InvocationTargetException;
import java.lang.reflect.Method;
import java.util.ArrayList;
import java.util.List;

/**
 * An object under test and the calls that were made of it, so that what it holds can be asked of
 * other objects to which the same was done: none is used for more calls than the document allows.
 */
final class Racks {
    private static final int MOST_CALLS = 512;
    private static final int MOST_UNDOS = 5;
    private static final List<Call> QUESTIONS = questions();

    private final CardRacks object = new CardRacks();
    private final List<Call> calls = new ArrayList<>();

    /** Orders come at once. */
    static Racks atOnce() {
        return new Racks().does("set(0, 0)");
    }

    /** Orders come at once; a verse for each occasion told, at price 10 and cost 4, with the stock. */
    static Racks stocked(int stock, int... occasions) {
        Racks racks = atOnce();
        for (int verse = 0; verse < occasions.length; verse++) {
            racks.does("verse(" + occasions[verse] + ", 10, 4)", "order(" + verse + ", " + stock + ")");
        }
        return racks;
    }

    /** Makes a call, told as "lay(0, 1, 12)". */
    int ask(String told) {
        Call call = Call.of(told);
        calls.add(call);
        if (calls.size() > MOST_CALLS) {
            Checks.tell(told + " is more calls than an object is used for");
        }
        return call.askOf(object);
    }

    Racks due(String told, int want) {
        Checks.due(told, ask(told), want);
        return this;
    }

    /** Makes calls of which none may return an error. */
    Racks does(String... told) {
        for (String call : told) {
            int answer = ask(call);
            if (answer < 0) {
                Checks.tell(call + " answered " + answer + ", no error is due");
            }
        }
        return this;
    }

    Racks repeats(int times, String told) {
        for (int i = 0; i < times; i++) {
            does(told);
        }
        return this;
    }

    Racks types(String text) {
        for (int i = 0; i < text.length(); i++) {
            does("type(" + (int) text.charAt(i) + ")");
        }
        return this;
    }

    Racks goesToDay(int day) {
        for (int left = day - ask("count(1)"); left > 0; left -= 99) {
            does("pass(" + Math.min(99, left) + ")");
        }
        return due("count(1)", day);
    }

    /** The call returns the error, and the state, the history behind it and the text stay as they were. */
    Racks refused(String told, int error) {
        List<Integer> before = everything();
        due(told, error);
        if (!everything().equals(before)) {
            Checks.tell(told + " changed something");
        }
        return this;
    }

    /** The call returns no error, is one change, and undo takes all of it back, but leaves the text. */
    Racks isOneChange(String told) {
        List<Integer> before = answers(0);
        int states = Math.min(4, ask("count(10)") + 1);
        does(told);
        due("count(10)", states);
        due("undo()", states - 1);
        if (!answers(0).equals(before)) {
            Checks.tell("undo() left something of " + told);
        }
        return this;
    }

    /** The call returns no error and changes nothing but, if it is one of the text's, the text. */
    Racks isNoChange(String told) {
        List<Integer> before = history();
        does(told);
        if (!history().equals(before)) {
            Checks.tell(told + " is a change");
        }
        return this;
    }

    /** All that can be asked now, and behind each undo that is possible. */
    List<Integer> everything() {
        List<Integer> seen = history();
        seen.addAll(askedOfOther(0, List.of(Call.of("count(11)"), Call.of("fault(0)"), Call.of("fault(1)"),
                Call.of("fault(2)"), Call.of("play()"))));
        return seen;
    }

    /** All that can be asked now of what a change records. */
    List<Integer> state() {
        return answers(0);
    }

    private List<Integer> history() {
        List<Integer> seen = new ArrayList<>();
        for (int undos = 0; undos <= MOST_UNDOS; undos++) {
            seen.addAll(askedOfOther(undos, List.of(Call.of("count(10)"))));
            seen.addAll(answers(undos));
        }
        return seen;
    }

    private List<Integer> answers(int undos) {
        return askedOfOther(undos, QUESTIONS);
    }

    private List<Integer> askedOfOther(int undos, List<Call> questions) {
        List<Integer> seen = new ArrayList<>();
        int room = MOST_CALLS - calls.size() - undos;
        for (int from = 0; room > 0 && from < questions.size(); from += room) {
            CardRacks other = other(undos);
            for (Call question : questions.subList(from, Math.min(from + room, questions.size()))) {
                seen.add(question.askOf(other));
            }
        }
        return seen;
    }

    private CardRacks other(int undos) {
        CardRacks other = new CardRacks();
        for (Call call : calls) {
            call.askOf(other);
        }
        for (int i = 0; i < undos; i++) {
            other.undo();
        }
        return other;
    }

    private static List<Call> questions() {
        List<Call> questions = new ArrayList<>();
        for (int what : new int[] {0, 1, 2, 3, 4, 5, 6, 7, 8, 9, 20, 21}) {
            questions.add(Call.of("count(" + what + ")"));
        }
        addAll(questions, "verseOf", 12, 10);
        addAll(questions, "together", 12, 12);
        addAll(questions, "would", 12, 2);
        addAll(questions, "slotOf", 10, 5);
        addAll(questions, "orderOf", 9, 3);
        addAll(questions, "occasionOf", 5, 5);
        for (int verse = 0; verse < 12; verse++) {
            questions.add(Call.of("bestSlot(" + verse + ")"));
            questions.add(Call.of("partner(" + verse + ")"));
            questions.add(Call.of("lasts(" + verse + ")"));
        }
        return questions;
    }

    private static void addAll(List<Call> questions, String name, int ones, int others) {
        for (int one = 0; one < ones; one++) {
            for (int other = 0; other < others; other++) {
                questions.add(Call.of(name + "(" + one + ", " + other + ")"));
            }
        }
    }

    /** A call of the face, read from its text. */
    private record Call(Method method, Object[] values, String told) {
        static Call of(String told) {
            int open = told.indexOf('(');
            String name = told.substring(0, open);
            String inside = told.substring(open + 1, told.length() - 1);
            String[] parts = inside.isEmpty() ? new String[0] : inside.split(", ");
            Object[] values = new Object[parts.length];
            for (int i = 0; i < parts.length; i++) {
                values[i] = Integer.valueOf(parts[i]);
            }
            for (Method method : CardRacks.class.getMethods()) {
                if (method.getName().equals(name) && method.getParameterCount() == values.length) {
                    return new Call(method, values, told);
                }
            }
            throw new IllegalArgumentException(told + " is no call of CardRacks");
        }

        int askOf(CardRacks racks) {
            try {
                return (int) method.invoke(racks, values);
            } catch (InvocationTargetException thrown) {
                throw new IllegalStateException(told + " threw " + thrown.getCause());
            } catch (IllegalAccessException hidden) {
                throw new IllegalStateException(told + " is not public");
            }
        }
    }
}
