/** The boundary cases of promises 12 to 22, a test for each sentence that names one. */
public final class AskingEdgeTest extends Checks {
    private static final int BASE = 100000000;

    public static void main(String[] args) throws IllegalAccessException {
        runAll(AskingEdgeTest.class);
    }

    /** Answers of the call for the numbers 0, 1, 2 .. in the place of the #. */
    private static void dueInTurn(Racks x, String call, int... want) {
        for (int i = 0; i < want.length; i++) {
            x.due(call.replace("#", String.valueOf(i)), want[i]);
        }
    }

    // ---- promise 12: verseOf

    public static void verseOfVerses() {
        begin("Promise 12: verse: number of the verse");
        Racks x = new Racks().refused("verseOf(0, 0)", INVALID_ARGUMENT).does("verse(3, 1, 0)", "verse(4, 1, 0)");
        x.refused("verseOf(-1, 0)", INVALID_ARGUMENT).refused("verseOf(2, 0)", INVALID_ARGUMENT);
        x.due("verseOf(0, 0)", 3).due("verseOf(1, 0)", 4);
    }

    public static void verseOfWhat() {
        begin("Promise 12: INVALID_ARGUMENT if an argument is out of range (what: 0 to 9)");
        Racks x = new Racks().does("verse(3, 1, 0)").refused("verseOf(0, -1)", INVALID_ARGUMENT);
        x.refused("verseOf(0, 10)", INVALID_ARGUMENT).refused("verseOf(0, 2147483647)", INVALID_ARGUMENT);
        dueInTurn(x, "verseOf(0, #)", 3, 1, 0, 0, 0, 0, 0, 0, 0, 0);
    }

    public static void verseOfAll() {
        begin("Promise 12: 0: its occasion; 1: its price; .. 9: how often people wanted it so far");
        Racks x = Racks.atOnce()
                .does("verse(3, 21, 13)", "verse(3, 98, 97)", "order(0, 40)", "set(0, 4)", "order(0, 5)",
                "order(1, 3)", "order(0, 6)", "lay(1, 0, 2)", "lay(8, 0, 1)", "sellTwo(0, 1)", "sellTwo(1, 1)",
                        "sell(0)");
        dueInTurn(x, "verseOf(0, #)", 3, 21, 13, 37, 0, 11, 3, 2, 1, 2);
        dueInTurn(x, "verseOf(1, #)", 3, 98, 97, 0, 0, 3, 0, 0, 1, 3);
    }

    public static void verseOfCardsInSeveralPlaces() {
        begin("Promise 12: 4: its cards in the rack; 5: its cards on their way (in several slots and orders)");
        Racks x = Racks.stocked(200, 0, 0)
                .does("lay(0, 0, 12)", "lay(9, 0, 12)", "lay(4, 0, 1)", "lay(5, 1, 7)", "set(0, 1)");
        x.repeats(4, "order(0, 999)").does("order(1, 3)").repeats(3, "order(0, 1)");
        x.due("verseOf(0, 4)", 25).due("verseOf(1, 4)", 7).due("verseOf(0, 5)", 3999).due("verseOf(1, 5)", 3);
        x.does("clear(4)", "pass(1)").due("verseOf(0, 4)", 24).due("verseOf(0, 5)", 0).due("verseOf(0, 3)", 4175);
    }

    // ---- promise 13: slotOf

    public static void slotOfSlots() {
        begin("Promise 13: slot: 0 to 9");
        Racks x = Racks.stocked(9, 0).does("lay(0, 0, 2)", "lay(9, 0, 3)").due("slotOf(0, 1)", 2)
                .due("slotOf(9, 1)", 3);
        x.refused("slotOf(-1, 1)", INVALID_ARGUMENT).refused("slotOf(10, 1)", INVALID_ARGUMENT);
    }

    public static void slotOfWhat() {
        begin("Promise 13: INVALID_ARGUMENT if an argument is out of range (what: 0 to 4)");
        Racks x = Racks.stocked(9, 0).does("lay(6, 0, 2)", "lay(7, 0, 2)", "sell(0)");
        x.refused("slotOf(6, -1)", INVALID_ARGUMENT).refused("slotOf(6, 5)", INVALID_ARGUMENT);
        dueInTurn(x, "slotOf(6, #)", 0, 1, 1, 162, 128);
    }

    public static void slotOfAnEmptyOne() {
        begin("Promise 13: NOT_FOUND for 0 and 4 if it is empty");
        Racks x = Racks.stocked(9, 0).does("lay(1, 0, 1)");
        dueInTurn(x, "slotOf(0, #)", NOT_FOUND, 0, 0, 34, NOT_FOUND);
        x.does("clear(1)");
        dueInTurn(x, "slotOf(1, #)", NOT_FOUND, 0, 0, 69, NOT_FOUND);
    }

    public static void slotOfOneWithoutCards() {
        begin("Promise 13: NOT_FOUND for 0 and 4 if it is empty (not if no card is left in it)");
        Racks x = Racks.stocked(9, 0).does("lay(1, 0, 1)", "sell(0)", "lay(0, 0, 1)", "lay(6, 0, 1)");
        dueInTurn(x, "slotOf(1, #)", 0, 0, 1, 69, 65);
        x.does("season(0, 1, 1)", "giveBack()");
        dueInTurn(x, "slotOf(0, #)", 0, 0, 0, 34, 2);
    }

    public static void slotOfSoldCards() {
        begin("Promise 13: 2: cards sold out of it so far (whatever their verses were)");
        Racks x = Racks.stocked(9, 0, 0).does("lay(3, 0, 2)", "sell(0)", "sell(1)").due("slotOf(3, 2)", 2);
        x.does("lay(3, 1, 1)").due("slotOf(3, 2)", 2).does("sell(1)").due("slotOf(3, 2)", 3);
        x.does("clear(3)").due("slotOf(3, 2)", 3).due("sell(1)", LOST).due("slotOf(3, 2)", 3).due("slotOf(2, 2)", 0);
        x.does("lay(3, 0, 2)", "season(0, 1, 1)", "giveBack()").due("slotOf(3, 2)", 3);
    }

    public static void slotOfAlikeOnesBeside() {
        begin("Promise 13: 4: slots beside it with verses of the same occasion, as a set");
        Racks x = Racks.stocked(9, 0, 0, 1)
                .does("lay(7, 0, 1)", "lay(2, 1, 1)", "lay(8, 0, 1)", "lay(6, 2, 1)", "lay(5, 0, 1)");
        x.due("slotOf(7, 4)", 1 << 2 | 1 << 8).due("slotOf(2, 4)", 1 << 7).due("slotOf(6, 4)", 0)
                .due("slotOf(5, 4)", 0);
        x.does("lay(4, 0, 1)", "lay(9, 1, 1)").due("slotOf(4, 4)", 1 << 9).due("slotOf(5, 4)", 0)
                .due("slotOf(9, 4)", 1 << 4 | 1 << 8);
    }

    public static void slotOfThoseWithoutCardsBeside() {
        begin("Promise 13: 4: slots beside it with verses of the same occasion (also without cards)");
        Racks x = Racks.stocked(9, 0, 0).does("lay(7, 0, 1)", "lay(2, 1, 1)", "sell(1)").due("slotOf(7, 4)", 1 << 2);
        x.does("sell(0)").due("slotOf(7, 4)", 1 << 2).due("slotOf(2, 4)", 1 << 7).does("clear(2)")
                .due("slotOf(7, 4)", 0);
    }

    // ---- promise 14: orderOf

    public static void orderOfNegativeIndex() {
        begin("Promise 14: INVALID_ARGUMENT if what is out of range or index is negative");
        Racks x = new Racks().refused("orderOf(-1, 0)", INVALID_ARGUMENT).refused("orderOf(0, -1)", INVALID_ARGUMENT);
        x.refused("orderOf(0, 3)", INVALID_ARGUMENT).does("verse(0, 1, 0)", "order(0, 7)");
        x.refused("orderOf(-1, 0)", INVALID_ARGUMENT).refused("orderOf(0, -1)", INVALID_ARGUMENT);
        x.refused("orderOf(0, 3)", INVALID_ARGUMENT).refused("orderOf(1, 3)", INVALID_ARGUMENT);
        x.refused("orderOf(-2147483648, 0)", INVALID_ARGUMENT);
        dueInTurn(x, "orderOf(0, #)", 0, 7, 3);
    }

    public static void orderOfNotSoMany() {
        begin("Promise 14: NOT_FOUND if there are not so many");
        Racks x = new Racks().does("verse(0, 1, 0)").refused("orderOf(0, 0)", NOT_FOUND);
        for (int orders = 1; orders <= 8; orders++) {
            x.does("order(0, " + orders + ")").due("orderOf(" + (orders - 1) + ", 1)", orders);
            x.due("orderOf(" + orders + ", 1)", NOT_FOUND);
        }
        x.refused("orderOf(8, 0)", NOT_FOUND).refused("orderOf(9, 2)", NOT_FOUND)
                .refused("orderOf(2147483647, 0)", NOT_FOUND);
        x.does("pass(3)").refused("orderOf(0, 0)", NOT_FOUND);
    }

    public static void orderOfTheFirst() {
        begin("Promise 14: 0 for the one that comes first, of several the one that was placed first, and so on");
        Racks x = new Racks().does("verse(0, 1, 0)", "verse(0, 1, 0)");
        int[] delays = {5, 4, 5, 1, 4, 30, 1, 5};
        for (int i = 0; i < 8; i++) {
            x.does("set(0, " + delays[i] + ")", "order(" + i % 2 + ", " + (i + 1) + ")");
        }
        dueInTurn(x, "orderOf(#, 1)", 4, 7, 2, 5, 1, 3, 8, 6, NOT_FOUND);
        dueInTurn(x, "orderOf(#, 0)", 1, 0, 1, 0, 0, 0, 1, 1, NOT_FOUND);
        dueInTurn(x, "orderOf(#, 2)", 1, 1, 4, 4, 5, 5, 5, 30, NOT_FOUND);
    }

    public static void orderOfTheSameDayLater() {
        begin("Promise 14: of several the one that was placed first (though on another day)");
        Racks x = new Racks()
                .does("verse(0, 1, 0)", "set(0, 5)", "order(0, 1)", "pass(4)", "set(0, 1)", "order(0, 2)");
        dueInTurn(x, "orderOf(#, 1)", 1, 2, NOT_FOUND);
        dueInTurn(x, "orderOf(#, 2)", 1, 1, NOT_FOUND);
        x.does("pass(1)").due("orderOf(0, 1)", NOT_FOUND);
    }

    public static void orderOfInHowManyDays() {
        begin("Promise 14: 2: in how many days it comes");
        Racks x = new Racks().does("verse(0, 1, 0)", "set(0, 30)", "order(0, 1)").due("orderOf(0, 2)", 30);
        x.does("pass(1)").due("orderOf(0, 2)", 29).does("pass(28)").due("orderOf(0, 2)", 1).does("set(0, 9)");
        x.due("orderOf(0, 2)", 1).does("pass(1)").due("orderOf(0, 2)", NOT_FOUND);
    }

    // ---- promise 15: occasionOf

    public static void occasionOfOccasions() {
        begin("Promise 15: occasion: 0 to 4");
        Racks x = new Racks().does("season(0, 7, 8)", "season(4, 9, 10)").due("occasionOf(0, 0)", 7)
                .due("occasionOf(4, 0)", 9);
        x.refused("occasionOf(-1, 0)", INVALID_ARGUMENT).refused("occasionOf(5, 0)", INVALID_ARGUMENT);
    }

    public static void occasionOfWhat() {
        begin("Promise 15: INVALID_ARGUMENT if an argument is out of range (what: 0 to 4)");
        Racks x = new Racks().does("season(2, 7, 8)").refused("occasionOf(2, -1)", INVALID_ARGUMENT);
        x.refused("occasionOf(2, 5)", INVALID_ARGUMENT);
        dueInTurn(x, "occasionOf(2, #)", 7, 8, 0, 7, 0);
        x.does("pass(7)");
        dueInTurn(x, "occasionOf(2, #)", 7, 8, 1, 0, 2);
    }

    /** Of the season: behind how many days it begins and how many it goes on, on each of the days. */
    private static void seasonDue(int first, int last, int[] days, int[] until, int[] left) {
        Racks x = new Racks().does("season(1, " + first + ", " + last + ")");
        for (int i = 0; i < days.length; i++) {
            x.goesToDay(days[i]);
            due("today on day " + days[i], x.ask("occasionOf(1, 2)"), left[i] > 0 ? 1 : 0);
            due("begins on day " + days[i], x.ask("occasionOf(1, 3)"), until[i]);
            due("goes on on day " + days[i], x.ask("occasionOf(1, 4)"), left[i]);
        }
    }

    public static void occasionOfDaysWithinTheYear() {
        begin("Promise 15: 3: behind how many days it begins next (0 if today is in it)");
        seasonDue(20, 30, new int[] {0, 19, 20, 30, 31, 359, 360, 379, 380, 390, 391},
                new int[] {20, 1, 0, 0, 349, 21, 20, 1, 0, 0, 349}, new int[] {0, 0, 11, 1, 0, 0, 0, 0, 11, 1, 0});
    }

    public static void occasionOfDaysOverTheEnd() {
        begin("Promise 15: 4: how many days it goes on with today (0 if today is not in it)");
        seasonDue(350, 5, new int[] {0, 5, 6, 349, 350, 359, 360, 365, 366},
                new int[] {0, 0, 344, 1, 0, 0, 0, 0, 344}, new int[] {6, 1, 0, 0, 16, 7, 6, 1, 0});
    }

    public static void occasionOfASingleDay() {
        begin("Promise 15: 3: behind how many days it begins next; 4: how many days it goes on (a single day)");
        seasonDue(0, 0, new int[] {0, 1, 359, 360, 361}, new int[] {0, 359, 1, 0, 359}, new int[] {1, 0, 0, 1, 0});
        seasonDue(359, 359, new int[] {0, 358, 359, 360}, new int[] {359, 1, 0, 359}, new int[] {0, 0, 1, 0});
    }

    public static void occasionOfAllDaysButOne() {
        begin("Promise 15: 4: how many days it goes on with today (all days of the year but one)");
        seasonDue(0, 358, new int[] {0, 1, 358, 359, 360}, new int[] {0, 0, 0, 1, 0}, new int[] {359, 358, 1, 0,
                359});
        seasonDue(1, 359, new int[] {0, 1, 359, 360}, new int[] {1, 0, 0, 1}, new int[] {0, 359, 1, 0});
        seasonDue(101, 99, new int[] {0, 99, 100, 101, 459}, new int[] {0, 0, 1, 0, 0}, new int[] {100, 1, 0, 359,
                1});
    }

    public static void occasionOfTheWholeYear() {
        begin("Promise 15: 360 if it has all days of the year, whatever its first day is");
        seasonDue(0, 359, new int[] {0, 1, 359, 360}, new int[] {0, 0, 0, 0}, new int[] {360, 360, 360, 360});
        seasonDue(1, 0, new int[] {0, 1, 359, 360}, new int[] {0, 0, 0, 0}, new int[] {360, 360, 360, 360});
        seasonDue(359, 358, new int[] {0, 358, 359, 360}, new int[] {0, 0, 0, 0}, new int[] {360, 360, 360, 360});
        seasonDue(100, 99, new int[] {0, 99, 100, 101}, new int[] {0, 0, 0, 0}, new int[] {360, 360, 360, 360});
    }

    // ---- promise 16: together

    public static void togetherFirstVerses() {
        begin("Promise 16: one: number of a verse");
        Racks x = Racks.stocked(9, 0, 1).does("lay(0, 0, 9)", "lay(1, 1, 9)", "sellTwo(0, 1)")
                .due("together(1, 0)", 1);
        x.refused("together(-1, 0)", INVALID_ARGUMENT).refused("together(2, 0)", INVALID_ARGUMENT);
        new Racks().refused("together(0, 0)", INVALID_ARGUMENT);
    }

    public static void togetherOtherVerses() {
        begin("Promise 16: other: number of a verse");
        Racks x = Racks.stocked(9, 0, 1).does("lay(0, 0, 9)", "lay(1, 1, 9)", "sellTwo(0, 1)")
                .due("together(0, 1)", 1);
        x.refused("together(0, -1)", INVALID_ARGUMENT).refused("together(0, 2)", INVALID_ARGUMENT);
    }

    public static void togetherHowOften() {
        begin("Promise 16: Tells how often two verses sold together (never, at first; both ways alike)");
        Racks x = Racks.stocked(9, 0, 1).does("lay(0, 0, 9)", "lay(1, 1, 9)", "sell(0)", "sell(1)")
                .due("together(0, 1)", 0);
        x.does("sellTwo(0, 1)", "sellTwo(1, 0)", "sellTwo(1, 1)").due("together(0, 1)", 2).due("together(1, 0)", 2);
        x.due("together(1, 1)", 1).due("together(0, 0)", 0);
    }

    public static void togetherOfTheLastVerse() {
        begin("Promise 16: how often two verses sold together (of the first and the last one of twelve)");
        Racks x = Racks.stocked(9, 0, 1, 1, 1, 1, 1, 1, 1, 1, 1, 1, 2)
                .does("lay(0, 0, 9)", "lay(1, 11, 9)", "sellTwo(11, 0)");
        x.due("together(0, 11)", 1).due("together(11, 0)", 1).due("together(11, 11)", 0).due("together(1, 0)", 0);
        x.due("together(0, 1)", 0).due("together(11, 1)", 0).does("sellTwo(11, 11)").due("together(11, 11)", 1);
    }

    // ---- promise 17: would

    public static void wouldVersesAndWhat() {
        begin("Promise 17: INVALID_ARGUMENT if an argument is out of range (what: 0 or 1)");
        new Racks().refused("would(0, 0)", INVALID_ARGUMENT);
        Racks x = Racks.stocked(9, 0, 0).does("lay(9, 1, 1)").due("would(1, 0)", 1).due("would(1, 1)", 9);
        x.refused("would(0, -1)", INVALID_ARGUMENT).refused("would(0, 2)", INVALID_ARGUMENT);
        x.refused("would(-1, 0)", INVALID_ARGUMENT).refused("would(2, 0)", INVALID_ARGUMENT);
    }

    public static void wouldBeLost() {
        begin("Promise 17: NOT_FOUND if the sale would be lost");
        Racks x = Racks.stocked(9, 0, 1).refused("would(0, 0)", NOT_FOUND).refused("would(0, 1)", NOT_FOUND);
        x.does("lay(0, 1, 1)").refused("would(0, 0)", NOT_FOUND).does("lay(5, 0, 1)").due("would(0, 0)", 0)
                .due("would(0, 1)", 5);
        x.does("season(0, 1, 359)").refused("would(0, 0)", NOT_FOUND).refused("would(0, 1)", NOT_FOUND)
                .due("would(1, 0)", 1);
        x.does("pass(1)").due("would(0, 1)", 5).does("sell(0)").refused("would(0, 1)", NOT_FOUND);
    }

    public static void wouldOfAnother() {
        begin("Promise 17: Tells which verse would be sold now to somebody who wants a verse (another one, too)");
        Racks x = Racks.stocked(9, 0, 0).does("lay(0, 1, 1)").due("would(0, 0)", 1).due("would(0, 1)", 0);
        x.does("lay(9, 0, 1)").due("would(0, 0)", 0).due("would(0, 1)", 9).due("verseOf(0, 9)", 0).due("count(2)", 2);
    }

    // ---- promise 18: bestSlot

    public static void bestSlotVerses() {
        begin("Promise 18: verse: number of the verse");
        new Racks().refused("bestSlot(0)", INVALID_ARGUMENT).does("verse(0, 1, 0)").due("bestSlot(0)", 0)
                .refused("bestSlot(-1)", INVALID_ARGUMENT).refused("bestSlot(1)", INVALID_ARGUMENT);
    }

    public static void bestSlotThatIsEmpty() {
        begin("Promise 18: of the slots that are empty");
        Racks x = Racks.stocked(99, 0, 0).does("lay(0, 1, 1)").due("bestSlot(0)", 1).does("sell(1)")
                .due("bestSlot(0)", 1);
        x.does("clear(0)").due("bestSlot(0)", 0);
        for (int slot = 0; slot < 9; slot++) {
            x.does("lay(" + slot + ", 1, 1)").due("bestSlot(0)", slot + 1);
        }
        x.does("lay(9, 1, 1)").refused("bestSlot(0)", NOT_FOUND);
    }

    public static void bestSlotWithRoom() {
        begin("Promise 18: or hold it and have fewer than 12 cards");
        Racks x = Racks.stocked(99, 0, 1).does("lay(0, 0, 11)").due("bestSlot(0)", 0).due("bestSlot(1)", 1);
        x.does("lay(0, 0, 1)").due("bestSlot(0)", 1).does("sell(0)").due("bestSlot(0)", 0);
        x.repeats(11, "sell(0)").due("slotOf(0, 1)", 0).due("bestSlot(0)", 0).due("bestSlot(1)", 1);
    }

    /** Ten slots with the verses 0, 1 of two occasions in turn: all full. */
    private static Racks full() {
        Racks x = Racks.stocked(60, 0, 1);
        for (int slot = 0; slot < 10; slot++) {
            x.does("lay(" + slot + ", " + slot % 2 + ", 12)");
        }
        return x;
    }

    public static void bestSlotNone() {
        begin("Promise 18: NOT_FOUND if there is none");
        Racks x = full().refused("bestSlot(0)", NOT_FOUND).refused("bestSlot(1)", NOT_FOUND);
        x.does("sell(1)").due("bestSlot(1)", 1).refused("bestSlot(0)", NOT_FOUND);
        x.does("clear(9)").due("bestSlot(0)", 9).due("bestSlot(1)", 1).does("season(0, 1, 1)").due("bestSlot(0)", 9);
    }

    public static void bestSlotGreatestSum() {
        begin("Promise 18: the sum over the slots beside it of how often their verse and this one sold together");
        Racks x = Racks.stocked(99, 0, 1, 2).does("lay(4, 0, 12)", "lay(5, 1, 12)", "lay(7, 2, 12)", "sellTwo(0, 1)");
        x.due("bestSlot(0)", 0).does("sellTwo(0, 2)").due("bestSlot(0)", 6).does("lay(6, 1, 12)")
                .due("bestSlot(0)", 0);
        x.does("lay(1, 2, 12)", "sellTwo(0, 2)").due("bestSlot(0)", 2).does("clear(7)").due("bestSlot(0)", 0);
        x.due("bestSlot(1)", 3).does("lay(3, 2, 12)").due("bestSlot(1)", 9).does("lay(9, 2, 12)")
                .due("bestSlot(1)", 0);
    }

    public static void bestSlotBesideItself() {
        begin("Promise 18: how often their verse and this one sold together (also a verse with itself)");
        Racks x = Racks.stocked(99, 0, 1).does("lay(7, 0, 12)", "lay(3, 1, 12)", "sellTwo(0, 1)")
                .due("bestSlot(0)", 2);
        x.does("sellTwo(0, 0)", "sellTwo(0, 0)", "lay(2, 1, 12)").due("bestSlot(0)", 8);
        x.does("lay(8, 1, 12)").due("bestSlot(0)", 6);
    }

    public static void bestSlotBesideOnesWithoutCards() {
        begin("Promise 18: the sum over the slots beside it (also those in which no card is left)");
        Racks x = Racks.stocked(99, 0, 1).does("lay(7, 0, 1)", "lay(3, 1, 12)", "sellTwo(0, 1)")
                .due("slotOf(7, 1)", 0);
        x.due("bestSlot(1)", 2).does("clear(7)").due("bestSlot(1)", 0);
    }

    public static void bestSlotBesideThoseAtTheEnds() {
        begin("Promise 18: the sum over the slots beside it (the first and the last slot, too)");
        Racks x = Racks.stocked(99, 0, 1).does("lay(9, 0, 12)", "lay(1, 1, 12)", "sellTwo(0, 1)").due("bestSlot(1)", 4);
        x.does("lay(4, 1, 12)").due("bestSlot(1)", 8).does("clear(9)", "lay(0, 0, 12)").due("bestSlot(1)", 1);
        x.does("lay(1, 1, 1)").due("bestSlot(1)", 5);
    }

    public static void bestSlotLowest() {
        begin("Promise 18: of several the lowest");
        Racks x = Racks.stocked(99, 0, 1).does("lay(4, 0, 12)", "lay(5, 0, 12)", "lay(6, 1, 12)", "sellTwo(0, 1)");
        x.due("bestSlot(1)", 0).does("lay(0, 0, 12)").due("bestSlot(1)", 1).does("lay(1, 0, 12)")
                .due("bestSlot(1)", 6);
        x.does("sell(1)", "clear(0)", "clear(1)", "clear(5)").due("bestSlot(1)", 3).does("lay(3, 0, 12)")
                .due("bestSlot(1)", 2);
    }

    // ---- promise 19: partner

    public static void partnerVerses() {
        begin("Promise 19: verse: number of the verse");
        new Racks().refused("partner(0)", INVALID_ARGUMENT);
        Racks x = Racks.stocked(9, 0, 1).does("lay(0, 0, 9)", "lay(1, 1, 9)", "sellTwo(0, 1)");
        x.due("partner(0)", 1).due("partner(1)", 0);
        x.refused("partner(-1)", INVALID_ARGUMENT).refused("partner(2)", INVALID_ARGUMENT);
    }

    public static void partnerNone() {
        begin("Promise 19: NOT_FOUND if none did");
        Racks x = Racks.stocked(9, 0, 1, 2).does("lay(0, 0, 9)", "lay(1, 1, 9)").refused("partner(0)", NOT_FOUND);
        x.does("sell(0)", "sell(1)", "sellTwo(0, 2)").refused("partner(0)", NOT_FOUND);
        x.does("sellTwo(0, 1)").due("partner(0)", 1).refused("partner(2)", NOT_FOUND);
        x.does("undo()").refused("partner(0)", NOT_FOUND);
    }

    public static void partnerAnotherOne() {
        begin("Promise 19: Finds the verse that sold together with a verse most often (another one)");
        Racks x = Racks.stocked(9, 0, 1).does("lay(0, 0, 9)", "lay(1, 1, 9)", "sellTwo(0, 0)", "sellTwo(0, 0)");
        x.refused("partner(0)", NOT_FOUND).does("sellTwo(1, 0)").due("partner(0)", 1).due("partner(1)", 0);
    }

    public static void partnerOfTwelve() {
        begin("Promise 19: Finds the verse that sold together with a verse most often (the last one, too)");
        Racks x = Racks.stocked(9, 0, 1, 1, 1, 1, 1, 1, 1, 1, 1, 1, 2);
        x.does("lay(0, 0, 9)", "lay(1, 11, 9)", "lay(2, 5, 9)", "sellTwo(11, 0)");
        x.due("partner(0)", 11).due("partner(11)", 0).does("sellTwo(5, 0)").due("partner(0)", 5).due("partner(5)", 0);
        x.does("sellTwo(0, 11)").due("partner(0)", 11).refused("partner(4)", NOT_FOUND);
    }

    public static void partnerLowest() {
        begin("Promise 19: Returns the verse, of several the lowest");
        Racks x = Racks.stocked(50, 0, 1, 2, 3);
        for (int verse = 0; verse < 4; verse++) {
            x.does("lay(" + verse + ", " + verse + ", 12)");
        }
        x.does("sellTwo(1, 3)").due("partner(1)", 3).does("sellTwo(1, 2)").due("partner(1)", 2);
        x.does("sellTwo(0, 1)").due("partner(1)", 0).does("sellTwo(3, 1)").due("partner(1)", 3);
        x.does("sellTwo(2, 1)").due("partner(1)", 2).does("sellTwo(2, 1)").due("partner(1)", 2);
    }

    // ---- promise 20: lasts

    private static int bits(int cards, int days, int wanted) {
        return Float.floatToIntBits((float) cards * (float) days / (float) wanted);
    }

    public static void lastsVerses() {
        begin("Promise 20: verse: number of the verse");
        new Racks().refused("lasts(0)", INVALID_ARGUMENT);
        Racks x = Racks.stocked(9, 0, 1).does("sell(0)", "sellTwo(1, 1)").due("lasts(0)", bits(9, 1, 1))
                .due("lasts(1)", bits(9, 1, 2));
        x.refused("lasts(-1)", INVALID_ARGUMENT).refused("lasts(2)", INVALID_ARGUMENT);
    }

    public static void lastsWithoutPeople() {
        begin("Promise 20: NOT_FOUND if nobody wanted it");
        Racks x = Racks.stocked(9, 0, 0).refused("lasts(1)", NOT_FOUND).does("lay(0, 1, 9)", "sell(0)");
        x.due("verseOf(1, 6)", 1).refused("lasts(1)", NOT_FOUND).does("sell(1)").due("lasts(1)", bits(7, 1, 1));
    }

    public static void lastsWithLostSales() {
        begin("Promise 20: divided by how often people wanted it so far (in vain, too)");
        Racks x = Racks.stocked(9, 0).due("sell(0)", LOST).due("sell(0)", LOST).due("lasts(0)", bits(9, 1, 2));
        x.does("lay(0, 0, 1)", "sell(0)").due("lasts(0)", bits(8, 1, 3));
    }

    public static void lastsDays() {
        begin("Promise 20: times the days so far (1 at least)");
        Racks x = Racks.stocked(9, 0).does("sell(0)").due("lasts(0)", bits(9, 1, 1)).does("pass(1)")
                .due("lasts(0)", bits(9, 1, 1));
        x.does("pass(1)").due("lasts(0)", bits(9, 2, 1)).does("pass(1)").due("lasts(0)", bits(9, 3, 1));
        x.goesToDay(359).due("lasts(0)", bits(9, 359, 1)).goesToDay(360).due("lasts(0)", bits(9, 360, 1));
        x.goesToDay(1999).due("lasts(0)", bits(9, 1999, 1));
    }

    public static void lastsCards() {
        begin("Promise 20: its cards in the rack, in the back room and on their way");
        Racks x = new Racks().does("verse(0, 1, 0)", "verse(0, 1, 0)", "sell(0)", "sell(0)", "sell(0)")
                .due("lasts(0)", 0);
        x.does("order(0, 1)").due("lasts(0)", bits(1, 1, 3)).does("order(0, 9)", "order(1, 99)")
                .due("lasts(0)", bits(10, 1, 3));
        x.does("pass(3)").due("lasts(0)", bits(10, 3, 3)).does("lay(0, 0, 10)", "order(0, 7)")
                .due("lasts(0)", bits(17, 3, 3));
        x.does("order(0, 999)", "pass(2)", "sell(0)").due("lasts(0)", bits(1015, 5, 4));
    }

    public static void lastsWithoutCards() {
        begin("Promise 20: Returns the bits of the float (0, if there is no card)");
        Racks x = Racks.stocked(1, 0).does("lay(0, 0, 1)", "sell(0)").due("lasts(0)", 0).goesToDay(1999)
                .due("lasts(0)", 0);
    }

    public static void lastsAsFloats() {
        begin("Promise 20: the cards, as a float, times the days, as a float, divided by how often, as a float");
        Racks x = Racks.stocked(999, 0).repeats(8, "order(0, 999)");
        for (int slot = 0; slot < 10; slot++) {
            x.does("lay(" + slot + ", 0, 12)");
        }
        x.does("order(0, 999)", "order(0, 125)").goesToDay(1999);
        for (int wanted = 1; wanted <= 30; wanted++) {
            x.does("sell(0)").due("lasts(0)", bits(10115 - wanted, 1999, wanted));
        }
        float quotientFirst = 10095f * (1999f / 20f);
        due("rounded once it is another", bits(10095, 1999, 20) == bitsOf(10095.0 * 1999 / 20) ? 1 : 0, 0);
        due("divided first it is another", bits(10095, 1999, 20) == bitsOf(quotientFirst) ? 1 : 0, 0);
    }

    private static int bitsOf(double number) {
        return Float.floatToIntBits((float) number);
    }

    public static void lastsLessThanADay() {
        begin("Promise 20: divided by how often, as a float (less than 1, too)");
        Racks x = Racks.stocked(1, 0);
        for (int wanted = 1; wanted <= 64; wanted++) {
            x.does("sell(0)").due("lasts(0)", bits(1, 1, wanted));
        }
        x.repeats(300, "sell(0)").due("lasts(0)", bits(1, 1, 364));
    }

    // ---- promise 21: count

    public static void countWhat() {
        begin("Promise 21: INVALID_ARGUMENT if what is out of range");
        Racks x = Racks.stocked(9, 0);
        for (int what : new int[] {-1, 12, 13, 18, 19, 22, 23, 2147483647, -2147483648}) {
            x.refused("count(" + what + ")", INVALID_ARGUMENT);
        }
        dueInTurn(x, "count(#)", 1, 0, 0, 9, 0, 0, 0, 0, BASE - 36, 0, 3, 0);
        x.due("count(20)", 0).due("count(21)", 50);
    }

    public static void countVersesAndDays() {
        begin("Promise 21: 0: verses; 1: the day (up to the last ones)");
        Racks x = new Racks().due("count(0)", 0).repeats(12, "verse(0, 1, 0)").due("count(0)", 12).does("undo()");
        x.due("count(0)", 11).goesToDay(1999).due("count(1)", 1999).does("undo()").due("count(1)", 1980);
    }

    public static void countCards() {
        begin("Promise 21: 2: cards in the rack; 3: cards in the back room (up to a full rack)");
        Racks x = full().due("count(2)", 120).due("count(3)", 0).does("clear(0)").due("count(2)", 108)
                .due("count(3)", 12);
        x.does("sellTwo(0, 1)").due("count(2)", 106).due("count(5)", 2);
        x.does("season(0, 1, 1)", "giveBack()").due("count(2)", 59).due("count(3)", 0).due("count(7)", 59);
    }

    public static void countOrders() {
        begin("Promise 21: 4: orders on their way (up to 8)");
        Racks x = new Racks().does("verse(0, 1, 0)").repeats(8, "order(0, 1)").due("count(4)", 8);
        x.does("set(0, 0)", "order(0, 1)").due("count(4)", 8).does("pass(2)").due("count(4)", 8).does("pass(1)")
                .due("count(4)", 0);
    }

    public static void countSales() {
        begin("Promise 21: 5: cards sold so far; 6: sales lost so far");
        Racks x = Racks.stocked(9, 0, 1)
                .does("lay(0, 0, 2)", "sell(1)", "sellTwo(0, 1)", "sellTwo(0, 0)", "sellTwo(1, 1)");
        x.due("count(5)", 2).due("count(6)", 5).does("undo()").due("count(6)", 3).does("undo()").due("count(5)", 1);
    }

    public static void countTheAccount() {
        begin("Promise 21: 8: the account plus 100000000 (less than it, too)");
        Racks x = new Racks().does("verse(0, 99, 99)", "set(0, 0)").due("count(8)", BASE).does("order(0, 1)")
                .due("count(8)", BASE - 99);
        x.does("lay(0, 0, 1)", "sell(0)").due("count(8)", BASE).repeats(9, "order(0, 999)")
                .due("count(8)", BASE - 99 * 8991);
        x.does("set(1, 100)", "season(0, 1, 1)", "giveBack()").due("count(8)", BASE).due("count(7)", 8991);
    }

    public static void countUnlikePairs() {
        begin("Promise 21: 9: how many unlike pairs of verses sold together so far "
                + "(a verse with itself is one, too)");
        Racks x = Racks.stocked(12, 0, 1, 2).does("lay(0, 0, 9)", "lay(1, 1, 9)", "lay(2, 2, 9)").due("count(9)", 0);
        x.does("sellTwo(0, 1)").due("count(9)", 1).does("sellTwo(1, 0)", "sellTwo(0, 1)").due("count(9)", 1);
        x.does("sellTwo(1, 1)").due("count(9)", 2).does("sellTwo(1, 1)").due("count(9)", 2).does("sellTwo(2, 0)")
                .due("count(9)", 3);
        x.does("sellTwo(2, 1)").due("count(9)", 4).does("undo()").due("count(9)", 3);
    }

    public static void countAllPairs() {
        begin("Promise 21: 9: how many unlike pairs of verses sold together so far (all of twelve verses)");
        Racks x = Racks.stocked(99, 0, 0, 0, 0, 0, 0, 0, 0, 0, 0, 0, 0);
        int pairs = 0;
        for (int one = 0; one < 12; one++) {
            x.does("lay(0, " + one + ", 12)", "lay(1, " + one + ", 12)");
            for (int other = one; other < 12; other++) {
                x.does("lay(2, " + other + ", 1)", "sellTwo(" + one + ", " + other + ")", "clear(2)");
                pairs++;
            }
            x.due("count(9)", pairs).does("clear(0)", "clear(1)");
        }
        x.due("count(9)", 78);
    }

    public static void countStates() {
        begin("Promise 21: 10: states in the history (up to 4)");
        Racks x = new Racks().due("count(10)", 0);
        for (int states = 1; states <= 6; states++) {
            x.does("pass(1)").due("count(10)", Math.min(states, 4));
        }
    }

    public static void countTheText() {
        begin("Promise 21: 11: the length of the text (up to 60)");
        Racks x = new Racks().due("count(11)", 0).does("type(32)").due("count(11)", 1).types("d".repeat(59))
                .due("count(11)", 60);
        x.due("type(100)", LIMIT_REACHED).due("count(11)", 60).does("clearText()").due("count(11)", 0);
    }

    public static void countSettings() {
        begin("Promise 21: 20 and 21: the settings 0 and 1");
        Racks x = new Racks().due("count(20)", 3).due("count(21)", 50).does("set(0, 30)", "set(1, 100)")
                .due("count(20)", 30);
        x.due("count(21)", 100).does("set(0, 0)", "set(1, 0)").due("count(20)", 0).due("count(21)", 0)
                .does("undo()").due("count(21)", 100);
    }

    // ---- promise 22: undo

    public static void undoOfNothing() {
        begin("Promise 22: NOT_POSSIBLE if it is empty");
        Racks x = new Racks().refused("undo()", NOT_POSSIBLE).types("d1;").refused("undo()", NOT_POSSIBLE);
        x.does("play()").due("undo()", 0).refused("undo()", NOT_POSSIBLE).due("count(11)", 3);
    }

    public static void undoTellsWhatIsLeft() {
        begin("Promise 22: Returns the number of states that are left in the history");
        Racks x = new Racks().repeats(4, "pass(1)").due("undo()", 3).due("undo()", 2).does("pass(1)")
                .due("undo()", 2);
        x.due("undo()", 1).due("undo()", 0).due("undo()", NOT_POSSIBLE).due("count(1)", 0);
    }

    public static void undoOfAFullHistory() {
        begin("Promise 22: Restores the latest state of the history, which is removed from it");
        Racks x = new Racks();
        for (int value = 11; value <= 20; value++) {
            x.does("set(0, " + value + ")");
        }
        for (int left = 3; left >= 0; left--) {
            x.due("undo()", left).due("count(20)", 16 + left).due("count(10)", left);
        }
        x.refused("undo()", NOT_POSSIBLE).due("count(20)", 16);
    }

    public static void undoBetweenChanges() {
        begin("Promise 22: Restores the latest state of the history (what was undone does not come again)");
        Racks x = new Racks()
                .does("set(0, 11)", "set(0, 12)", "undo()", "set(0, 13)", "set(0, 14)", "undo()", "undo()");
        x.due("count(20)", 11).due("count(10)", 1).due("undo()", 0).due("count(20)", 3)
                .refused("undo()", NOT_POSSIBLE);
    }

    public static void undoOfTheSeasonsAndOrders() {
        begin("Promise 22: Restores the latest state (its day, seasons, orders and cards)");
        Racks x = new Racks().does("verse(0, 1, 0)", "order(0, 5)", "season(0, 0, 2)", "pass(3)")
                .due("verseOf(0, 3)", 5);
        x.due("sell(0)", LOST).due("undo()", 3).due("undo()", 2).due("verseOf(0, 3)", 0).due("orderOf(0, 2)", 3);
        x.due("occasionOf(0, 4)", 3).due("undo()", 1).due("occasionOf(0, 4)", 360).due("undo()", 0)
                .due("count(4)", 0);
        x.due("count(0)", 1).refused("undo()", NOT_POSSIBLE);
    }
}
