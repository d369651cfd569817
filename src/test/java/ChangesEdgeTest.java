/** The boundary cases of 'Changes and errors' in 'Terms', a test for each sentence that names one. */
public final class ChangesEdgeTest extends Checks {
    private static final int[] OUTSIDE = {-1, 1 << 16, 1 << 31, Integer.MAX_VALUE, Integer.MIN_VALUE};

    public static void main(String[] args) throws IllegalAccessException {
        runAll(ChangesEdgeTest.class);
    }

    /** Three verses and cards of all, in season, an order on its way, and a history of three states. */
    private static Racks busy() {
        Racks x = Racks.stocked(30, 0, 1, 2);
        x.does("lay(0, 0, 2)", "lay(1, 1, 12)", "lay(6, 2, 3)", "sellTwo(0, 1)", "set(0, 2)", "order(1, 9)");
        return x.does("season(2, 1, 0)", "season(2, 5, 9)", "undo()");
    }

    // ---- what is a change

    public static void changesThatReturnNoError() {
        begin("Terms: The changes are the calls of verse, season, order, .. and play that return no error");
        String[] changes = {"verse(4, 1, 1)", "season(1, 5, 6)", "order(1, 7)", "lay(0, 0, 1)", "lay(2, 1, 1)",
            "clear(0)", "sell(0)", "sellTwo(0, 1)", "pass(2)", "set(0, 9)", "set(1, 9)", "play()"};
        for (String change : changes) {
            new Racks().does("verse(0, 5, 5)", "verse(1, 5, 5)", "set(0, 0)", "order(0, 9)", "order(1, 9)",
                    "lay(0, 0, 1)").isOneChange(change);
            busy().types("v0,1,1;o0,9;l9,0,1;s0;d9;").isOneChange(change);
        }
        busy().does("season(2, 5, 9)").isOneChange("giveBack()");
    }

    public static void changesThatLeaveAllAsItWas() {
        begin("Terms: The changes are the calls .. that return no error (though nothing is other than before)");
        Racks x = new Racks().does("verse(0, 1, 1)");
        x.does("set(0, 3)").due("count(10)", 2);
        x.does("set(1, 50)").due("count(10)", 3);
        x.does("season(0, 0, 359)").due("count(10)", 4);
        x.due("undo()", 3).due("undo()", 2).due("undo()", 1);
        x.does("play()").due("count(10)", 2);
        x.due("sell(0)", LOST).due("count(10)", 3);
        x.due("undo()", 2).due("verseOf(0, 9)", 0);
        x.due("sellTwo(0, 0)", 0).due("count(10)", 3);
    }

    public static void firstChange() {
        begin("Terms: each change records everything before it (also the first one)");
        String[] changes = {"verse(4, 1, 1)", "season(1, 5, 6)", "pass(2)", "set(0, 9)", "set(1, 9)", "play()"};
        for (String change : changes) {
            Racks x = new Racks();
            x.isOneChange(change);
            x.refused("undo()", NOT_POSSIBLE);
        }
    }

    public static void allOtherCallsAreNoChanges() {
        begin("Terms: The changes are the calls of verse, .. and play (and no others)");
        String[] others = {"verseOf(0, 3)", "slotOf(0, 0)", "slotOf(1, 4)", "orderOf(0, 2)", "occasionOf(2, 3)",
            "together(0, 1)", "would(0, 0)", "would(0, 1)", "bestSlot(0)", "partner(0)", "lasts(0)", "count(8)",
            "type(100)", "clearText()", "fault(0)", "fault(1)", "fault(2)"};
        for (String call : others) {
            busy().types("d1;s0;x").isNoChange(call);
        }
    }

    public static void undoIsNoChange() {
        begin("Terms: The changes are the calls of verse, .. and play (undo is none)");
        Racks x = new Racks().does("set(0, 1)", "set(0, 2)", "set(0, 4)");
        x.due("undo()", 2).due("count(10)", 2).due("count(20)", 2);
        x.due("undo()", 1).due("count(20)", 1);
        x.due("set(0, 5)", 1).due("count(10)", 2);
        x.due("undo()", 1).due("count(20)", 1);
        x.due("undo()", 0).due("count(20)", 3);
    }

    // ---- the history

    public static void fourStates() {
        begin("Terms: A history of at most 4 states is kept");
        Racks x = new Racks();
        for (int change = 1; change <= 4; change++) {
            x.does("pass(1)").due("count(10)", change);
        }
        for (int left = 3; left >= 0; left--) {
            x.due("undo()", left).due("count(1)", left);
        }
        x.refused("undo()", NOT_POSSIBLE);
    }

    public static void fifthState() {
        begin("Terms: and if there are 5 states then, the oldest one is dropped");
        Racks x = new Racks().repeats(5, "pass(1)");
        x.due("count(10)", 4);
        for (int left = 3; left >= 0; left--) {
            x.due("undo()", left).due("count(1)", left + 1);
        }
        x.refused("undo()", NOT_POSSIBLE);
        x.due("count(1)", 1);
    }

    public static void fullHistoryAgainAndAgain() {
        begin("Terms: if there are 5 states then, the oldest one is dropped (each time)");
        Racks x = new Racks().repeats(9, "pass(1)");
        x.due("count(10)", 4).due("undo()", 3).due("undo()", 2).due("count(1)", 7);
        x.repeats(3, "pass(10)").due("count(10)", 4);
        int[] days = {27, 17, 7, 6};
        for (int i = 0; i < 4; i++) {
            x.due("undo()", 3 - i).due("count(1)", days[i]);
        }
        x.refused("undo()", NOT_POSSIBLE);
    }

    public static void everythingButTheText() {
        begin("Terms: each change records everything before it but the text");
        Racks x = new Racks().types("d2;");
        x.does("play()", "clearText()").types("d4;d1;");
        x.due("undo()", 0);
        x.due("count(1)", 0).due("count(11)", 6).due("play()", 2).due("count(1)", 5);
        x.due("clearText()", 6).due("undo()", 0).due("count(11)", 0);
    }

    public static void everythingOfAState() {
        begin("Terms: each change records everything before it");
        Racks x = busy();
        java.util.List<Integer> before = x.state();
        x.does("season(2, 5, 9)", "giveBack()", "sellTwo(0, 1)", "pass(3)").due("undo()", 3);
        x.due("undo()", 2).due("undo()", 1).due("undo()", 0);
        due("all is as four changes ago", x.state().equals(before) ? 1 : 0, 1);
    }

    // ---- which of several errors is returned

    public static void invalidRatherThanNotPossible() {
        begin("Terms: INVALID_ARGUMENT is returned rather than NOT_POSSIBLE");
        Racks x = Racks.stocked(5, 0, 0).does("lay(0, 0, 3)");
        x.refused("lay(0, 1, 1)", NOT_POSSIBLE).refused("lay(0, 1, 13)", INVALID_ARGUMENT);
        x.refused("lay(0, 1, 0)", INVALID_ARGUMENT).refused("lay(0, 2, 1)", INVALID_ARGUMENT);
        x.refused("lay(1, 0, 3)", NOT_POSSIBLE).refused("lay(10, 0, 3)", INVALID_ARGUMENT);
        x.refused("clear(9)", NOT_POSSIBLE).refused("clear(10)", INVALID_ARGUMENT);
    }

    public static void invalidRatherThanLimit() {
        begin("Terms: INVALID_ARGUMENT is returned rather than (NOT_POSSIBLE and) LIMIT_REACHED");
        Racks x = Racks.stocked(99, 0, 0, 0, 0, 0, 0, 0, 0, 0, 0, 0, 0).does("lay(0, 0, 12)", "set(0, 1)");
        x.refused("verse(0, 1, 0)", LIMIT_REACHED).refused("verse(5, 1, 0)", INVALID_ARGUMENT);
        x.refused("verse(0, 0, 0)", INVALID_ARGUMENT).refused("verse(0, 1, 100)", INVALID_ARGUMENT);
        x.refused("lay(0, 0, 1)", LIMIT_REACHED).refused("lay(0, 0, 13)", INVALID_ARGUMENT);
        x.repeats(8, "order(0, 1)").refused("order(0, 1)", LIMIT_REACHED);
        x.refused("order(0, 0)", INVALID_ARGUMENT).refused("order(12, 1)", INVALID_ARGUMENT);
        x.goesToDay(1999).refused("pass(1)", LIMIT_REACHED);
        x.refused("pass(0)", INVALID_ARGUMENT).refused("pass(100)", INVALID_ARGUMENT);
        x.types("d".repeat(60)).refused("type(32)", LIMIT_REACHED);
        x.refused("type(31)", INVALID_ARGUMENT).refused("type(127)", INVALID_ARGUMENT);
    }

    public static void invalidRatherThanNotFound() {
        begin("Terms: INVALID_ARGUMENT is returned rather than (LIMIT_REACHED and) NOT_FOUND");
        Racks x = new Racks().does("verse(0, 1, 0)");
        x.refused("slotOf(0, 0)", NOT_FOUND).refused("slotOf(10, 0)", INVALID_ARGUMENT);
        x.refused("slotOf(0, 4)", NOT_FOUND).refused("slotOf(0, 5)", INVALID_ARGUMENT);
        x.refused("orderOf(0, 0)", NOT_FOUND).refused("orderOf(0, 3)", INVALID_ARGUMENT);
        x.refused("orderOf(-1, 0)", INVALID_ARGUMENT);
        x.refused("would(0, 1)", NOT_FOUND).refused("would(0, 2)", INVALID_ARGUMENT);
        x.refused("would(1, 1)", INVALID_ARGUMENT);
        x.refused("partner(0)", NOT_FOUND).refused("partner(1)", INVALID_ARGUMENT);
        x.refused("lasts(0)", NOT_FOUND).refused("lasts(1)", INVALID_ARGUMENT);
        x.refused("fault(0)", NOT_FOUND).refused("fault(3)", INVALID_ARGUMENT);
    }

    public static void notPossibleRatherThanLimit() {
        begin("Terms: NOT_POSSIBLE rather than LIMIT_REACHED");
        Racks x = Racks.stocked(14, 0, 0).does("lay(0, 0, 10)");
        x.refused("lay(0, 0, 3)", LIMIT_REACHED);
        x.refused("lay(0, 0, 5)", NOT_POSSIBLE);
        x.refused("lay(0, 1, 3)", NOT_POSSIBLE);
        x.does("lay(1, 1, 3)").refused("lay(1, 1, 12)", NOT_POSSIBLE);
        x.does("order(1, 1)").refused("lay(1, 1, 12)", LIMIT_REACHED);
    }

    // ---- a call that returns an error changes nothing

    public static void errorsOfChanges() {
        begin("Terms: A call that returns an error changes nothing (the errors of what would be changes)");
        Racks x = busy().does("lay(1, 1, 1)").repeats(9, "verse(3, 9, 9)").types("v0,1,1;");
        x.refused("verse(3, 9, 9)", LIMIT_REACHED).refused("verse(3, 9, -1)", INVALID_ARGUMENT);
        x.refused("season(0, 9, 360)", INVALID_ARGUMENT);
        x.refused("order(0, 1000)", INVALID_ARGUMENT);
        x.refused("lay(2, 1, 13)", INVALID_ARGUMENT).refused("lay(0, 1, 1)", NOT_POSSIBLE);
        x.refused("lay(1, 1, 1)", LIMIT_REACHED).refused("clear(9)", NOT_POSSIBLE);
        x.refused("sell(12)", INVALID_ARGUMENT).refused("sellTwo(0, 12)", INVALID_ARGUMENT);
        x.refused("sellTwo(12, 0)", INVALID_ARGUMENT).refused("giveBack()", NOT_POSSIBLE);
        x.refused("pass(100)", INVALID_ARGUMENT).refused("set(0, 31)", INVALID_ARGUMENT);
        x.refused("play()", NOT_POSSIBLE);
    }

    public static void errorsWithFewerStates() {
        begin("Terms: A call that returns an error changes nothing (the history, though it has room)");
        new Racks().refused("verse(5, 9, 9)", INVALID_ARGUMENT).refused("season(5, 1, 1)", INVALID_ARGUMENT)
                .refused("order(0, 1)", INVALID_ARGUMENT).refused("lay(0, 0, 1)", INVALID_ARGUMENT)
                .refused("clear(0)", NOT_POSSIBLE).refused("sell(0)", INVALID_ARGUMENT)
                .refused("sellTwo(0, 0)", INVALID_ARGUMENT).refused("giveBack()", NOT_POSSIBLE)
                .refused("pass(0)", INVALID_ARGUMENT).refused("set(2, 0)", INVALID_ARGUMENT)
                .refused("undo()", NOT_POSSIBLE);
        Racks x = Racks.stocked(9, 0).does("undo()", "undo()", "undo()");
        x.due("count(10)", 0).refused("undo()", NOT_POSSIBLE);
    }

    public static void errorsOfLimits() {
        begin("Terms: A call that returns an error changes nothing (at the limits)");
        Racks x = Racks.stocked(12, 0).does("lay(4, 0, 12)").repeats(10, "order(0, 999)").does("order(0, 9)");
        x.refused("order(0, 1)", LIMIT_REACHED).refused("clear(4)", LIMIT_REACHED);
        x.does("set(0, 1)").refused("order(0, 1)", LIMIT_REACHED);
        x.does("verse(0, 9, 9)").repeats(8, "order(1, 1)").refused("order(1, 1)", LIMIT_REACHED);
        x.goesToDay(1999).refused("pass(1)", LIMIT_REACHED);
        x.types("d".repeat(60)).refused("type(100)", LIMIT_REACHED).refused("play()", NOT_POSSIBLE);
    }

    // ---- numbers of nothing

    /** A number that is none, for the call with a # in its place. */
    private static void noneOf(Racks x, int first, String... calls) {
        for (String call : calls) {
            x.refused(call.replace("#", String.valueOf(first)), INVALID_ARGUMENT);
            for (int number : OUTSIDE) {
                x.refused(call.replace("#", String.valueOf(number)), INVALID_ARGUMENT);
            }
        }
    }

    public static void noSuchOccasion() {
        begin("Terms: If there is no occasion with a certain number, this is INVALID_ARGUMENT");
        noneOf(busy(), 5, "verse(#, 1, 0)", "season(#, 0, 0)", "occasionOf(#, 0)");
    }

    public static void noSuchVerse() {
        begin("Terms: If there is no verse with a certain number, this is INVALID_ARGUMENT");
        String[] calls = {"order(#, 1)", "lay(0, #, 1)", "sell(#)", "sellTwo(#, 0)", "sellTwo(0, #)", "sellTwo(#, #)",
            "verseOf(#, 0)", "together(#, 0)", "together(0, #)", "together(#, #)", "would(#, 0)", "bestSlot(#)",
            "partner(#)", "lasts(#)"};
        noneOf(new Racks(), 0, calls);
        noneOf(busy(), 3, calls);
        noneOf(busy().repeats(9, "verse(0, 1, 0)"), 12, calls);
    }

    public static void verseThatWasUndone() {
        begin("Terms: If there is no verse with a certain number (any more), this is INVALID_ARGUMENT");
        Racks x = new Racks().does("verse(0, 1, 0)", "verse(0, 1, 0)", "sell(1)", "undo()", "undo()");
        x.refused("sell(1)", INVALID_ARGUMENT).refused("verseOf(1, 9)", INVALID_ARGUMENT);
        x.due("verse(3, 7, 8)", 1).due("verseOf(1, 9)", 0).due("verseOf(1, 0)", 3);
    }

    public static void noSuchSlot() {
        begin("Terms: If there is no slot with a certain number, this is INVALID_ARGUMENT");
        noneOf(busy(), 10, "lay(#, 0, 1)", "clear(#)", "slotOf(#, 1)");
    }

    public static void constants() {
        begin("Terms: The constants: INVALID_ARGUMENT = -1000001, .. NOT_FOUND = -1000004");
        due("INVALID_ARGUMENT", CardRacks.INVALID_ARGUMENT, -1000001);
        due("NOT_POSSIBLE", CardRacks.NOT_POSSIBLE, -1000002);
        due("LIMIT_REACHED", CardRacks.LIMIT_REACHED, -1000003);
        due("NOT_FOUND", CardRacks.NOT_FOUND, -1000004);
    }
}
