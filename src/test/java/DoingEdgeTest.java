/** The boundary cases of promises 1 to 11, a test for each sentence that names one. */
public final class DoingEdgeTest extends Checks {
    private static final int BASE = 100000000;

    public static void main(String[] args) throws IllegalAccessException {
        runAll(DoingEdgeTest.class);
    }

    // ---- promise 1: a new object

    public static void emptyRack() {
        begin("Promise 1: Creates an empty rack");
        Racks x = new Racks();
        for (int slot = 0; slot < 10; slot++) {
            x.due("slotOf(" + slot + ", 0)", NOT_FOUND).due("slotOf(" + slot + ", 1)", 0);
            x.due("slotOf(" + slot + ", 2)", 0).due("slotOf(" + slot + ", 4)", NOT_FOUND);
            x.refused("clear(" + slot + ")", NOT_POSSIBLE);
        }
        int[] counts = {0, 0, 0, 0, 0, 0, 0, 0, BASE, 0, 0, 0};
        for (int what = 0; what < 12; what++) {
            x.due("count(" + what + ")", counts[what]);
        }
        x.due("fault(0)", NOT_FOUND).due("orderOf(0, 0)", NOT_FOUND).due("undo()", NOT_POSSIBLE);
    }

    public static void eachObjectByItself() {
        begin("Promise 1: Creates an empty rack (its own one)");
        Racks busy = Racks.stocked(9, 0).does("lay(0, 0, 1)").types("x");
        Racks x = new Racks().does("verse(1, 2, 3)").refused("clear(0)", NOT_POSSIBLE);
        x.due("count(0)", 1).due("count(8)", BASE).due("count(11)", 0).due("count(20)", 3);
        busy.due("verseOf(0, 0)", 0).due("slotOf(0, 1)", 1).due("count(11)", 1);
    }

    // ---- promise 2: verse

    public static void verseOccasions() {
        begin("Promise 2: occasion: 0 to 4");
        Racks x = new Racks().refused("verse(-1, 1, 0)", INVALID_ARGUMENT)
                .refused("verse(5, 1, 0)", INVALID_ARGUMENT);
        x.due("verse(0, 1, 0)", 0).due("verse(4, 1, 0)", 1).due("verseOf(0, 0)", 0).due("verseOf(1, 0)", 4);
    }

    public static void versePrices() {
        begin("Promise 2: price: 1 to 99");
        Racks x = new Racks().refused("verse(0, 0, 0)", INVALID_ARGUMENT)
                .refused("verse(0, 100, 0)", INVALID_ARGUMENT);
        x.refused("verse(0, -1, 0)", INVALID_ARGUMENT);
        x.due("verse(0, 1, 0)", 0).due("verse(0, 99, 0)", 1).due("verseOf(0, 1)", 1).due("verseOf(1, 1)", 99);
    }

    public static void verseCosts() {
        begin("Promise 2: cost: 0 to 99");
        Racks x = new Racks().refused("verse(0, 1, -1)", INVALID_ARGUMENT)
                .refused("verse(0, 1, 100)", INVALID_ARGUMENT);
        x.due("verse(0, 1, 0)", 0).due("verse(0, 1, 99)", 1).due("verseOf(0, 2)", 0).due("verseOf(1, 2)", 99);
    }

    public static void verseNumbers() {
        begin("Promise 2: Returns its number");
        Racks x = new Racks().does("verse(0, 1, 0)", "verse(1, 1, 0)");
        x.due("verse(2, 1, 0)", 2).due("undo()", 2).due("verse(3, 1, 0)", 2).due("verseOf(2, 0)", 3);
    }

    public static void verseLimit() {
        begin("Promise 2: LIMIT_REACHED if there are 12");
        Racks x = new Racks().repeats(11, "verse(0, 1, 0)");
        x.due("verse(4, 99, 99)", 11);
        x.refused("verse(0, 1, 0)", LIMIT_REACHED);
        x.due("undo()", 3).due("verse(3, 98, 97)", 11).refused("verse(3, 98, 97)", LIMIT_REACHED);
        x.due("verseOf(11, 0)", 3).due("verseOf(11, 1)", 98).due("verseOf(11, 2)", 97).due("count(0)", 12);
    }

    // ---- promise 3: season

    public static void seasonOccasions() {
        begin("Promise 3: occasion: 0 to 4");
        Racks x = new Racks().refused("season(-1, 0, 9)", INVALID_ARGUMENT)
                .refused("season(5, 0, 9)", INVALID_ARGUMENT);
        x.due("season(0, 0, 9)", 1).due("season(4, 0, 8)", 1);
        x.due("occasionOf(0, 1)", 9).due("occasionOf(4, 1)", 8).due("occasionOf(3, 1)", 359);
    }

    public static void seasonFirstDays() {
        begin("Promise 3: first: 0 to 359");
        Racks x = new Racks().refused("season(1, -1, 9)", INVALID_ARGUMENT)
                .refused("season(1, 360, 9)", INVALID_ARGUMENT);
        x.due("season(1, 0, 9)", 1).due("occasionOf(1, 0)", 0);
        x.due("season(1, 359, 9)", 1).due("occasionOf(1, 0)", 359);
    }

    public static void seasonLastDays() {
        begin("Promise 3: last: 0 to 359");
        Racks x = new Racks().refused("season(1, 9, -1)", INVALID_ARGUMENT)
                .refused("season(1, 9, 360)", INVALID_ARGUMENT);
        x.due("season(1, 9, 0)", 1).due("occasionOf(1, 1)", 0);
        x.due("season(1, 9, 359)", 0).due("occasionOf(1, 1)", 359);
    }

    public static void seasonTellsOfToday() {
        begin("Promise 3: Returns 1 if today is in it, otherwise 0");
        for (int day : new int[] {100, 460, 1900}) {
            Racks x = new Racks().goesToDay(day);
            x.due("season(2, 100, 100)", 1).due("season(2, 101, 100)", 1).due("season(2, 100, 99)", 1);
            x.due("season(2, 100, 359)", 1).due("season(2, 0, 100)", 1).due("season(2, 359, 100)", 1);
            x.due("season(2, 101, 359)", 0).due("season(2, 0, 99)", 0).due("season(2, 101, 99)", 0);
            x.due("season(2, 99, 98)", 1).due("season(2, 102, 101)", 1).due("season(2, 99, 99)", 0);
        }
    }

    public static void seasonAtTheEndsOfTheYear() {
        begin("Promise 3: Returns 1 if today is in it, otherwise 0 (at the ends of the year)");
        Racks x = new Racks();
        x.due("season(0, 0, 0)", 1).due("season(0, 359, 0)", 1).due("season(0, 1, 359)", 0).due("season(0, 1, 0)", 1);
        x.goesToDay(359).due("season(0, 359, 359)", 1).due("season(0, 359, 0)", 1).due("season(0, 0, 358)", 0);
        x.goesToDay(360).due("season(0, 359, 359)", 0).due("season(0, 359, 0)", 1).due("season(0, 0, 358)", 1);
    }

    // ---- promise 4: order

    public static void orderIsPaidAtOnce() {
        begin("Promise 4: Places an order; the cost of its cards is paid at once");
        Racks x = new Racks().does("verse(0, 50, 7)", "verse(0, 50, 0)", "verse(0, 50, 99)");
        x.does("order(0, 1)").due("count(8)", BASE - 7).due("verseOf(0, 3)", 0);
        x.does("order(1, 999)").due("count(8)", BASE - 7);
        x.does("order(2, 999)").due("count(8)", BASE - 7 - 99 * 999);
        x.does("pass(3)").due("count(8)", BASE - 7 - 99 * 999);
    }

    public static void orderThatComesAtOnce() {
        begin("Promise 4: With setting 0 as 0 it comes at once");
        Racks x = new Racks().does("verse(0, 50, 7)", "set(0, 0)").goesToDay(9);
        x.due("order(0, 5)", 9).due("verseOf(0, 3)", 5).due("verseOf(0, 5)", 0).due("count(4)", 0);
        x.due("count(8)", BASE - 35).due("pass(99)", 0);
        x.does("set(0, 1)").due("order(0, 6)", 109).due("verseOf(0, 3)", 5).due("verseOf(0, 5)", 6)
                .due("count(4)", 1);
        x.due("pass(1)", 1).due("verseOf(0, 3)", 11);
    }

    public static void orderVerses() {
        begin("Promise 4: verse: number of the verse");
        Racks x = new Racks().refused("order(0, 1)", INVALID_ARGUMENT);
        x.does("verse(0, 1, 0)", "verse(0, 1, 0)").due("order(0, 1)", 3).due("order(1, 1)", 3);
        x.refused("order(-1, 1)", INVALID_ARGUMENT).refused("order(2, 1)", INVALID_ARGUMENT);
    }

    public static void orderAmounts() {
        begin("Promise 4: amount: 1 to 999");
        Racks x = new Racks().does("verse(0, 1, 0)");
        x.refused("order(0, 0)", INVALID_ARGUMENT).refused("order(0, -1)", INVALID_ARGUMENT);
        x.refused("order(0, 1000)", INVALID_ARGUMENT);
        x.due("order(0, 1)", 3).due("verseOf(0, 5)", 1).due("order(0, 999)", 3).due("verseOf(0, 5)", 1000);
    }

    public static void orderTellsTheDay() {
        begin("Promise 4: Returns the day on which it comes");
        Racks x = new Racks().does("verse(0, 1, 0)").due("order(0, 1)", 3);
        x.does("set(0, 0)").due("order(0, 1)", 0);
        x.does("set(0, 30)").due("order(0, 1)", 30).goesToDay(359).due("order(0, 1)", 389);
        x.goesToDay(1999).due("order(0, 1)", 2029).does("set(0, 0)").due("order(0, 1)", 1999);
    }

    public static void orderLimitOfOrders() {
        begin("Promise 4: LIMIT_REACHED if 8 are on their way (and it would not come at once)");
        Racks x = new Racks().does("verse(0, 1, 0)").repeats(7, "order(0, 1)").due("order(0, 2)", 3);
        x.refused("order(0, 1)", LIMIT_REACHED);
        x.does("set(0, 1)").refused("order(0, 1)", LIMIT_REACHED);
        x.does("set(0, 0)").due("order(0, 1)", 0).due("order(0, 1)", 0).due("count(4)", 8).due("verseOf(0, 3)", 2);
        x.does("set(0, 30)").refused("order(0, 1)", LIMIT_REACHED);
        x.due("pass(3)", 8).due("order(0, 1)", 33);
    }

    public static void orderLimitOfTheBackRoom() {
        begin("Promise 4: LIMIT_REACHED if the back room would have more than 9999 of it");
        Racks x = Racks.stocked(999, 0, 0).repeats(9, "order(0, 999)");
        x.refused("order(0, 10)", LIMIT_REACHED).refused("order(0, 999)", LIMIT_REACHED);
        x.due("order(0, 9)", 0).due("verseOf(0, 3)", 9999).refused("order(0, 1)", LIMIT_REACHED);
        x.due("order(1, 999)", 0);
        x.does("set(0, 1)").refused("order(0, 1)", LIMIT_REACHED).due("order(1, 999)", 1);
    }

    public static void orderLimitWithWhatIsOnItsWay() {
        begin("Promise 4: more than 9999 of it with all that is on its way");
        Racks x = Racks.stocked(999, 0, 0).does("set(0, 2)").repeats(5, "order(0, 999)").does("set(0, 5)");
        x.repeats(2, "order(0, 999)").does("set(0, 0)", "order(0, 999)", "order(0, 998)", "set(0, 1)");
        x.refused("order(0, 11)", LIMIT_REACHED).isOneChange("order(0, 10)");
        x.does("set(0, 0)").refused("order(0, 11)", LIMIT_REACHED).due("order(0, 10)", 0);
        x.refused("order(0, 1)", LIMIT_REACHED).does("pass(5)").refused("order(0, 1)", LIMIT_REACHED);
        x.due("verseOf(0, 3)", 9999);
    }

    public static void orderLimitWithoutTheRack() {
        begin("Promise 4: if the back room would have more than 9999 of it (what is in the rack is not in it)");
        Racks x = Racks.stocked(999, 0).repeats(9, "order(0, 999)").does("order(0, 9)", "lay(0, 0, 12)");
        x.refused("order(0, 13)", LIMIT_REACHED).due("order(0, 12)", 0).refused("order(0, 1)", LIMIT_REACHED);
        x.due("verseOf(0, 3)", 9999).due("verseOf(0, 4)", 12);
    }

    // ---- promise 5: lay

    public static void laySlots() {
        begin("Promise 5: slot: 0 to 9");
        Racks x = Racks.stocked(9, 0).refused("lay(-1, 0, 1)", INVALID_ARGUMENT)
                .refused("lay(10, 0, 1)", INVALID_ARGUMENT);
        x.due("lay(0, 0, 1)", 1).due("lay(9, 0, 2)", 2).due("slotOf(0, 1)", 1).due("slotOf(9, 1)", 2);
    }

    public static void layVerses() {
        begin("Promise 5: verse: number of the verse");
        new Racks().refused("lay(0, 0, 1)", INVALID_ARGUMENT);
        Racks x = Racks.stocked(9, 0, 0).refused("lay(0, -1, 1)", INVALID_ARGUMENT)
                .refused("lay(0, 2, 1)", INVALID_ARGUMENT);
        x.due("lay(0, 0, 1)", 1).due("lay(1, 1, 1)", 1).due("slotOf(0, 0)", 0).due("slotOf(1, 0)", 1);
    }

    public static void layAmounts() {
        begin("Promise 5: amount: 1 to 12");
        Racks x = Racks.stocked(50, 0).refused("lay(0, 0, 0)", INVALID_ARGUMENT)
                .refused("lay(0, 0, -1)", INVALID_ARGUMENT);
        x.refused("lay(0, 0, 13)", INVALID_ARGUMENT);
        x.due("lay(0, 0, 1)", 1).due("lay(1, 0, 12)", 12).due("verseOf(0, 3)", 37).due("verseOf(0, 4)", 13);
    }

    public static void layTellsTheCards() {
        begin("Promise 5: Returns how many cards the slot has then");
        Racks x = Racks.stocked(50, 0).due("lay(0, 0, 3)", 3).due("lay(0, 0, 1)", 4).due("lay(1, 0, 2)", 2);
        x.does("sell(0)").due("lay(0, 0, 1)", 4).due("slotOf(0, 1)", 4);
    }

    public static void layOntoAnotherVerse() {
        begin("Promise 5: NOT_POSSIBLE if the slot has cards of another verse");
        Racks x = Racks.stocked(9, 0, 0).does("lay(5, 0, 1)").refused("lay(5, 1, 1)", NOT_POSSIBLE);
        x.does("sell(0)").due("lay(5, 1, 1)", 1).due("slotOf(5, 0)", 1).refused("lay(5, 0, 1)", NOT_POSSIBLE);
        x.does("clear(5)").due("lay(5, 0, 1)", 1)
                .does("season(0, 1, 1)", "giveBack()", "verse(1, 1, 1)", "order(2, 1)");
        x.due("lay(5, 2, 1)", 1).due("slotOf(5, 0)", 2);
    }

    public static void layMoreThanThereAre() {
        begin("Promise 5: NOT_POSSIBLE if the back room has fewer");
        Racks x = Racks.stocked(5, 0, 0).refused("lay(0, 0, 6)", NOT_POSSIBLE).due("lay(0, 0, 4)", 4);
        x.refused("lay(1, 0, 2)", NOT_POSSIBLE).due("lay(1, 0, 1)", 1).due("verseOf(0, 3)", 0);
        x.refused("lay(1, 0, 1)", NOT_POSSIBLE);
        x.does("set(0, 1)", "order(0, 9)").refused("lay(1, 0, 1)", NOT_POSSIBLE).does("pass(1)")
                .due("lay(1, 0, 9)", 10);
    }

    public static void layMoreThanASlotHolds() {
        begin("Promise 5: LIMIT_REACHED if the slot would have more than 12");
        Racks x = Racks.stocked(50, 0, 0).does("lay(2, 0, 11)").refused("lay(2, 0, 2)", LIMIT_REACHED);
        x.refused("lay(2, 0, 12)", LIMIT_REACHED).due("lay(2, 0, 1)", 12).refused("lay(2, 0, 1)", LIMIT_REACHED);
        x.repeats(12, "sell(0)").due("lay(2, 1, 12)", 12).refused("lay(2, 1, 1)", LIMIT_REACHED);
    }

    // ---- promise 6: clear

    public static void clearSlots() {
        begin("Promise 6: slot: 0 to 9");
        Racks x = Racks.stocked(9, 0).does("lay(0, 0, 2)", "lay(9, 0, 3)");
        x.refused("clear(-1)", INVALID_ARGUMENT).refused("clear(10)", INVALID_ARGUMENT);
        x.due("clear(9)", 3).due("slotOf(0, 1)", 2).due("clear(0)", 2).due("verseOf(0, 3)", 9);
    }

    public static void clearASlotWithoutCards() {
        begin("Promise 6: Returns how many cards it had (none, if no card is left in it)");
        Racks x = Racks.stocked(9, 0).does("lay(0, 0, 1)", "sell(0)").due("clear(0)", 0);
        x.due("slotOf(0, 0)", NOT_FOUND).due("slotOf(0, 1)", 0).due("verseOf(0, 3)", 8);
        x.does("lay(0, 0, 8)", "season(0, 1, 1)", "giveBack()").due("clear(0)", 0).due("slotOf(0, 0)", NOT_FOUND);
    }

    public static void clearAFullSlot() {
        begin("Promise 6: its cards go into the back room, and it is empty");
        Racks x = Racks.stocked(12, 0, 1).does("lay(0, 0, 12)", "lay(1, 1, 12)").due("clear(0)", 12);
        x.due("verseOf(0, 3)", 12).due("verseOf(0, 4)", 0).due("verseOf(1, 3)", 0).due("slotOf(0, 0)", NOT_FOUND);
        x.due("slotOf(0, 1)", 0).due("slotOf(1, 1)", 12).due("count(7)", 0);
    }

    public static void clearAnEmptySlot() {
        begin("Promise 6: NOT_POSSIBLE if it is empty (it holds no verse)");
        Racks x = Racks.stocked(9, 0).refused("clear(3)", NOT_POSSIBLE);
        x.does("lay(3, 0, 2)").due("clear(3)", 2).refused("clear(3)", NOT_POSSIBLE);
        x.due("undo()", 3).due("clear(3)", 2).due("undo()", 3).due("undo()", 2).refused("clear(3)", NOT_POSSIBLE);
    }

    public static void clearLimit() {
        begin("Promise 6: LIMIT_REACHED if the back room would have more than 9999 of its verse");
        Racks x = Racks.stocked(999, 0, 0).repeats(9, "order(0, 999)")
                .does("lay(0, 0, 2)", "lay(1, 1, 2)", "order(0, 9)");
        x.isOneChange("clear(0)");
        x.does("order(0, 1)").refused("clear(0)", LIMIT_REACHED).due("clear(1)", 2);
        x.does("sell(0)").due("clear(0)", 1).due("verseOf(0, 3)", 9999);
    }

    public static void clearLimitWithWhatIsOnItsWay() {
        begin("Promise 6: more than 9999 of its verse with all that is on its way");
        Racks x = Racks.stocked(999, 0, 0).does("lay(0, 0, 12)", "set(0, 2)").repeats(8, "order(0, 999)");
        x.does("set(0, 0)", "order(0, 999)").due("verseOf(0, 5)", 7992).due("verseOf(0, 3)", 1986);
        x.does("order(0, 9)").isOneChange("clear(0)");
        x.does("order(0, 1)").refused("clear(0)", LIMIT_REACHED).does("pass(2)").refused("clear(0)", LIMIT_REACHED);
        x.does("sell(0)").due("clear(0)", 11).due("verseOf(0, 3)", 9999);
    }

    public static void clearAtTheLimitWithoutCards() {
        begin("Promise 6: LIMIT_REACHED if the back room would have more than 9999 (not if it has them already)");
        Racks x = Racks.stocked(999, 0).repeats(9, "order(0, 999)").does("lay(0, 0, 1)", "order(0, 10)");
        x.due("verseOf(0, 3)", 9999).refused("clear(0)", LIMIT_REACHED).does("sell(0)").due("clear(0)", 0);
        x.due("verseOf(0, 3)", 9999);
    }

    // ---- promise 7: sell

    public static void sellVerses() {
        begin("Promise 7: verse: number of the verse");
        new Racks().refused("sell(0)", INVALID_ARGUMENT);
        Racks x = Racks.stocked(9, 0, 0).does("lay(0, 0, 1)", "lay(1, 1, 1)");
        x.refused("sell(-1)", INVALID_ARGUMENT).refused("sell(2)", INVALID_ARGUMENT)
                .refused("sell(100)", INVALID_ARGUMENT);
        x.due("sell(1)", 1).due("sell(0)", 0);
    }

    public static void sellTheLastCard() {
        begin("Promise 7: Returns the verse that is sold, or 100 if the sale is lost");
        Racks x = Racks.stocked(9, 0).due("sell(0)", LOST).does("lay(9, 0, 1)").due("sell(0)", 0)
                .due("sell(0)", LOST);
        x.due("count(5)", 1).due("count(6)", 2).due("verseOf(0, 9)", 3).due("slotOf(9, 2)", 1).due("slotOf(9, 1)", 0);
    }

    public static void sellEarnsThePriceOfWhatIsSold() {
        begin("Promise 7: Returns the verse that is sold (whose price is earned)");
        Racks x = new Racks().does("verse(0, 1, 0)", "verse(0, 99, 0)", "set(0, 0)", "order(1, 2)", "lay(0, 1, 2)");
        x.due("sell(0)", 1).due("count(8)", BASE + 99).due("sell(1)", 1).due("count(8)", BASE + 198);
        x.due("sell(0)", LOST).due("count(8)", BASE + 198);
    }

    // ---- promise 8: sellTwo

    public static void sellTwoFirstVerses() {
        begin("Promise 8: one: number of a verse");
        Racks x = Racks.stocked(9, 0, 0).does("lay(0, 0, 9)", "lay(1, 1, 9)");
        x.refused("sellTwo(-1, 0)", INVALID_ARGUMENT).refused("sellTwo(2, 0)", INVALID_ARGUMENT);
        x.due("sellTwo(1, 0)", 2).due("verseOf(1, 6)", 1);
    }

    public static void sellTwoOtherVerses() {
        begin("Promise 8: other: number of a verse");
        Racks x = Racks.stocked(9, 0, 0).does("lay(0, 0, 9)", "lay(1, 1, 9)");
        x.refused("sellTwo(0, -1)", INVALID_ARGUMENT).refused("sellTwo(0, 2)", INVALID_ARGUMENT);
        x.due("sellTwo(0, 1)", 2).due("verseOf(1, 6)", 1);
    }

    public static void sellTwoTellsHowManyCards() {
        begin("Promise 8: Returns how many cards are sold");
        Racks x = Racks.stocked(9, 0, 1).due("sellTwo(0, 1)", 0).does("lay(0, 0, 2)");
        x.due("sellTwo(0, 1)", 1).due("sellTwo(1, 0)", 1).due("sellTwo(1, 0)", 0);
        x.due("count(5)", 2).due("count(6)", 6).due("verseOf(0, 8)", 2).due("verseOf(1, 8)", 4);
        x.does("lay(0, 0, 1)").due("sellTwo(0, 0)", 1).due("together(0, 0)", 0);
        x.does("lay(0, 0, 2)").due("sellTwo(0, 0)", 2).due("together(0, 0)", 1);
    }

    public static void sellTwoWithOneOutOfSeason() {
        begin("Promise 8: Returns how many cards are sold (of one in season, one not)");
        Racks x = Racks.stocked(9, 0, 1).does("lay(0, 0, 3)", "lay(1, 1, 3)", "season(1, 1, 1)");
        x.due("sellTwo(0, 1)", 1).due("sellTwo(1, 1)", 0).due("count(9)", 0).due("slotOf(1, 1)", 3);
        x.does("pass(1)").due("sellTwo(0, 1)", 2).due("together(0, 1)", 1);
    }

    // ---- promise 9: giveBack

    public static void giveBackKeepsVerses() {
        begin("Promise 9: Returns all cards of verses that are out of season; slots keep their verses");
        Racks x = Racks.stocked(9, 0, 1).does("lay(0, 0, 2)", "lay(9, 0, 3)", "lay(4, 1, 1)", "season(0, 1, 1)");
        x.due("giveBack()", 9).due("slotOf(0, 0)", 0).due("slotOf(9, 0)", 0).due("slotOf(9, 1)", 0);
        x.due("slotOf(4, 1)", 1).due("verseOf(1, 3)", 8).due("slotOf(0, 2)", 0).due("clear(0)", 0);
    }

    public static void giveBackOneCard() {
        begin("Promise 9: Returns how many cards are returned (also a single one, in the rack or behind it)");
        Racks.stocked(1, 0).does("season(0, 1, 1)").due("giveBack()", 1).due("count(7)", 1);
        Racks.stocked(1, 0).does("lay(7, 0, 1)", "season(0, 1, 1)").due("giveBack()", 1).due("count(7)", 1);
    }

    public static void giveBackOfSeveralVerses() {
        begin("Promise 9: Returns all cards of verses that are out of season (of several occasions)");
        Racks x = Racks.stocked(9, 0, 1, 0, 4).does("season(0, 1, 1)", "season(4, 1, 1)", "lay(0, 3, 9)");
        x.due("giveBack()", 27).due("verseOf(1, 3)", 9).due("count(7)", 27)
                .does("season(1, 5, 4)", "season(1, 5, 3)");
        x.refused("giveBack()", NOT_POSSIBLE).does("season(1, 1, 359)").due("giveBack()", 9).due("count(7)", 36);
    }

    public static void giveBackAtTheEndsOfASeason() {
        begin("Promise 9: cards of verses that are out of season (from the day behind its last one)");
        Racks x = Racks.stocked(5, 0).does("season(0, 358, 0)").refused("giveBack()", NOT_POSSIBLE);
        x.does("pass(1)").isOneChange("giveBack()").goesToDay(357).isOneChange("giveBack()");
        x.goesToDay(358).refused("giveBack()", NOT_POSSIBLE).goesToDay(361).due("giveBack()", 5);
    }

    public static void giveBackNothing() {
        begin("Promise 9: NOT_POSSIBLE if there is none");
        new Racks().refused("giveBack()", NOT_POSSIBLE);
        new Racks().does("verse(0, 1, 0)", "season(0, 1, 1)").refused("giveBack()", NOT_POSSIBLE);
        Racks.stocked(9, 0).refused("giveBack()", NOT_POSSIBLE);
        new Racks().does("verse(0, 1, 0)", "order(0, 9)", "season(0, 9, 9)").refused("giveBack()", NOT_POSSIBLE);
        Racks x = Racks.stocked(1, 0).does("lay(0, 0, 1)", "sell(0)", "season(0, 1, 1)")
                .refused("giveBack()", NOT_POSSIBLE);
        x.does("order(0, 1)").due("giveBack()", 1).refused("giveBack()", NOT_POSSIBLE);
    }

    public static void giveBackForNothing() {
        begin("Promise 9: NOT_POSSIBLE if there is none (not if nothing is paid for them)");
        Racks x = Racks.stocked(3, 0).does("set(1, 0)", "season(0, 1, 1)").due("giveBack()", 3)
                .due("count(8)", BASE - 12);
        x.does("verse(0, 1, 0)", "order(1, 2)", "set(1, 100)").due("giveBack()", 2).due("count(8)", BASE - 12);
        x.due("count(7)", 5);
    }

    public static void giveBackNotWhatIsOnItsWay() {
        begin("Promise 9: Returns all cards of verses that are out of season (not those on their way)");
        Racks x = Racks.stocked(3, 0).does("set(0, 1)", "order(0, 7)", "season(0, 9, 9)").due("giveBack()", 3);
        x.due("verseOf(0, 5)", 7).due("pass(1)", 1).due("verseOf(0, 3)", 7).due("giveBack()", 7);
    }

    // ---- promise 10: pass

    public static void passDays() {
        begin("Promise 10: days: 1 to 99");
        Racks x = new Racks().refused("pass(0)", INVALID_ARGUMENT).refused("pass(-1)", INVALID_ARGUMENT);
        x.refused("pass(100)", INVALID_ARGUMENT);
        x.due("pass(1)", 0).due("count(1)", 1).due("pass(99)", 0).due("count(1)", 100);
    }

    public static void passTellsTheOrders() {
        begin("Promise 10: Returns how many orders come in them");
        Racks x = new Racks()
                .does("verse(0, 1, 0)", "set(0, 5)", "order(0, 1)", "set(0, 6)", "order(0, 1)", "order(0, 1)");
        x.does("set(0, 7)", "order(0, 1)", "set(0, 0)", "order(0, 1)").due("pass(4)", 0).due("pass(2)", 3);
        x.due("pass(1)", 1).due("pass(99)", 0).due("verseOf(0, 3)", 5);
    }

    public static void passEightOrders() {
        begin("Promise 10: Returns how many orders come in them (all that can be on their way)");
        Racks x = new Racks().does("verse(0, 1, 0)", "verse(1, 1, 0)").repeats(4, "order(0, 999)").does("set(0, 30)");
        x.repeats(4, "order(1, 1)").does("pass(29)", "undo()").due("pass(30)", 8).due("count(4)", 0);
        x.due("verseOf(0, 3)", 3996).due("verseOf(1, 3)", 4);
    }

    public static void passToTheLastDay() {
        begin("Promise 10: LIMIT_REACHED if it would be later than the day 1999 then");
        Racks x = new Racks().goesToDay(1900).isOneChange("pass(99)");
        x.goesToDay(1901).refused("pass(99)", LIMIT_REACHED).due("pass(98)", 0).due("count(1)", 1999);
        x.refused("pass(1)", LIMIT_REACHED).refused("pass(99)", LIMIT_REACHED);
    }

    public static void ordersBehindTheLastDay() {
        begin("Promise 10: LIMIT_REACHED if it would be later than the day 1999 then (orders stay on their way)");
        Racks x = new Racks().does("verse(0, 1, 0)").goesToDay(1997).does("set(0, 2)", "order(0, 1)", "order(0, 1)");
        x.does("set(0, 3)").due("order(0, 5)", 2000).due("pass(2)", 2).refused("pass(1)", LIMIT_REACHED);
        x.due("orderOf(0, 1)", 5).due("orderOf(0, 2)", 1).due("verseOf(0, 3)", 2);
    }

    // ---- promise 11: set

    public static void setWhat() {
        begin("Promise 11: what: 0 or 1");
        Racks x = new Racks().refused("set(-1, 1)", INVALID_ARGUMENT).refused("set(2, 1)", INVALID_ARGUMENT);
        x.due("set(0, 1)", 3).due("set(1, 2)", 50).due("count(20)", 1).due("count(21)", 2);
    }

    public static void setFirstSetting() {
        begin("Promise 11: value: a value in its range (of setting 0)");
        Racks x = new Racks().refused("set(0, -1)", INVALID_ARGUMENT).refused("set(0, 31)", INVALID_ARGUMENT);
        x.refused("set(0, 100)", INVALID_ARGUMENT);
        x.due("set(0, 0)", 3).due("set(0, 30)", 0).due("count(20)", 30).due("count(21)", 50);
    }

    public static void setSecondSetting() {
        begin("Promise 11: value: a value in its range (of setting 1)");
        Racks x = new Racks().refused("set(1, -1)", INVALID_ARGUMENT).refused("set(1, 101)", INVALID_ARGUMENT);
        x.due("set(1, 0)", 50).due("set(1, 31)", 0).due("set(1, 100)", 31).due("count(21)", 100).due("count(20)", 3);
    }

    public static void setTellsWhatItWas() {
        begin("Promise 11: Returns what it was");
        new Racks().due("set(0, 3)", 3).due("set(0, 7)", 3).due("set(0, 9)", 7).due("set(1, 50)", 50)
                .due("set(1, 7)", 50)
                .due("set(1, 9)", 7).due("undo()", 3).due("set(1, 1)", 7);
    }

    public static void setLeavesOrdersOnTheirWay() {
        begin("Promise 11: orders that are on their way come as they were to come");
        Racks x = new Racks().does("verse(0, 1, 0)", "order(0, 5)", "set(0, 0)").due("verseOf(0, 3)", 0)
                .due("orderOf(0, 2)", 3);
        x.does("set(0, 30)").due("pass(2)", 0).does("set(0, 1)").due("pass(1)", 1).due("verseOf(0, 3)", 5);
    }
}
