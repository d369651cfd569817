/** The boundary cases of 'What it is' and 'Terms', a test for each sentence that names one. */
public final class TermsEdgeTest extends Checks {
    public static void main(String[] args) throws IllegalAccessException {
        runAll(TermsEdgeTest.class);
    }

    // ---- what it is

    public static void the512thCall() {
        begin("What it is: An object is used for at most 512 calls after it has been made");
        Racks x = new Racks().does("verse(0, 1, 0)").repeats(509, "sell(0)");
        x.due("verseOf(0, 9)", 509);
        x.due("count(6)", 509);
    }

    // ---- numbers and sets

    public static void divisionsAreRoundedDown() {
        begin("Terms: All divisions are rounded down");
        paidBack(99, 50, 1, 49);
        paidBack(1, 99, 1, 0);
        paidBack(33, 3, 1, 0);
        paidBack(34, 3, 1, 1);
        paidBack(99, 99, 1, 98);
        paidBack(50, 2, 1, 1);
    }

    /** What is paid for cards of the cost at the setting 1 as percent, when they are returned. */
    private static void paidBack(int cost, int percent, int cards, int want) {
        Racks x = Racks.atOnce()
                .does("verse(0, 1, " + cost + ")", "order(0, " + cards + ")", "set(1, " + percent + ")",
                "season(0, 1, 1)");
        int account = x.ask("count(8)");
        x.due("giveBack()", cards);
        x.due("count(8)", account + want);
    }

    public static void bitKIsForTheSlotK() {
        begin("Terms: Sets of slots are told as bits: bit k is for the slot k");
        for (int slot = 0; slot < 10; slot++) {
            int beside = slot < 5 ? slot + 5 : slot - 5;
            Racks x = Racks.stocked(2, 0).does("lay(" + slot + ", 0, 1)", "lay(" + beside + ", 0, 1)");
            x.due("slotOf(" + beside + ", 4)", 1 << slot);
        }
    }

    // ---- occasions, verses

    public static void fiveOccasions() {
        begin("Terms: There are 5 occasions, numbered from 0");
        Racks x = new Racks();
        x.due("occasionOf(0, 2)", 1);
        x.due("occasionOf(4, 2)", 1);
        x.refused("occasionOf(-1, 2)", INVALID_ARGUMENT);
        x.refused("occasionOf(5, 2)", INVALID_ARGUMENT);
    }

    public static void seasonsAreTheWholeYearAtFirst() {
        begin("Terms: a first and a last day of the year (0 to 359; at first the whole year, 0 to 359)");
        Racks x = new Racks();
        for (int occasion = 0; occasion < 5; occasion++) {
            x.due("occasionOf(" + occasion + ", 0)", 0);
            x.due("occasionOf(" + occasion + ", 1)", 359);
        }
        for (int day : new int[] {0, 359, 360}) {
            x.goesToDay(day);
            for (int occasion = 0; occasion < 5; occasion++) {
                x.due("occasionOf(" + occasion + ", 2)", 1);
                x.due("occasionOf(" + occasion + ", 4)", 360);
            }
        }
    }

    /** In season on the days told, of which each is the first or the last one of its kind in a row. */
    private static void seasonDue(int first, int last, int[] days, int[] in) {
        Racks x = new Racks().does("season(3, " + first + ", " + last + ")", "verse(3, 1, 0)");
        for (int i = 0; i < days.length; i++) {
            x.goesToDay(days[i]);
            due("season(3, " + first + ", " + last + ") on day " + days[i], x.ask("occasionOf(3, 2)"), in[i]);
        }
    }

    public static void seasonWithinTheYear() {
        begin("Terms: each with a season: a first and a last day of the year");
        seasonDue(1, 358, new int[] {0, 1, 2, 357, 358, 359, 360, 361, 718, 719}, new int[] {0, 1, 1, 1, 1, 0, 0,
                1, 1, 0});
        seasonDue(0, 0, new int[] {0, 1, 359, 360, 361}, new int[] {1, 0, 0, 1, 0});
        seasonDue(359, 359, new int[] {0, 358, 359, 360}, new int[] {0, 0, 1, 0});
        seasonDue(100, 101, new int[] {99, 100, 101, 102, 459, 460, 461, 462}, new int[] {0, 1, 1, 0, 0, 1, 1, 0});
    }

    public static void seasonOverTheEndOfTheYear() {
        begin("Terms: A season whose first day is above its last one goes on over the end of the year");
        seasonDue(359, 0, new int[] {0, 1, 358, 359, 360, 361}, new int[] {1, 0, 0, 1, 1, 0});
        seasonDue(358, 2, new int[] {2, 3, 357, 358, 359, 360, 362, 363}, new int[] {1, 0, 0, 1, 1, 1, 1, 0});
        seasonDue(101, 99, new int[] {99, 100, 101, 359, 360, 459, 460, 461}, new int[] {1, 0, 1, 1, 1, 1, 0, 1});
        seasonDue(100, 99, new int[] {0, 98, 99, 100, 101, 359, 360}, new int[] {1, 1, 1, 1, 1, 1, 1});
        seasonDue(1, 0, new int[] {0, 1, 359, 360, 361}, new int[] {1, 1, 1, 1, 1});
    }

    public static void twelveVerses() {
        begin("Terms: There are at most 12 verses, numbered from 0");
        Racks x = new Racks();
        for (int verse = 0; verse < 12; verse++) {
            x.refused("verseOf(" + verse + ", 0)", INVALID_ARGUMENT);
            x.due("verse(0, 1, 0)", verse);
            x.due("verseOf(" + verse + ", 0)", 0);
        }
        x.refused("verse(0, 1, 0)", LIMIT_REACHED);
        x.refused("verseOf(12, 0)", INVALID_ARGUMENT);
        x.refused("verseOf(-1, 0)", INVALID_ARGUMENT);
    }

    public static void priceAndCost() {
        begin("Terms: with a price (1 to 99), a cost (0 to 99)");
        Racks x = new Racks().does("verse(0, 1, 0)", "verse(0, 99, 99)");
        x.due("verseOf(0, 1)", 1);
        x.due("verseOf(0, 2)", 0);
        x.due("verseOf(1, 1)", 99);
        x.due("verseOf(1, 2)", 99);
    }

    public static void stockInTheBackRoom() {
        begin("Terms: and a stock in the back room (0 to 9999; 0 at first)");
        Racks x = Racks.atOnce().does("verse(0, 1, 0)");
        x.due("verseOf(0, 3)", 0);
        x.refused("lay(0, 0, 1)", NOT_POSSIBLE);
        x.repeats(10, "order(0, 999)").does("order(0, 9)");
        x.due("verseOf(0, 3)", 9999);
        x.refused("order(0, 1)", LIMIT_REACHED);
    }

    // ---- the rack

    public static void tenSlots() {
        begin("Terms: The rack has 10 slots, numbered from 0");
        Racks x = Racks.stocked(10, 0);
        for (int slot = 0; slot < 10; slot++) {
            x.due("lay(" + slot + ", 0, 1)", 1);
        }
        x.refused("slotOf(-1, 1)", INVALID_ARGUMENT);
        x.refused("slotOf(10, 1)", INVALID_ARGUMENT);
    }

    public static void twelveCards() {
        begin("Terms: A slot is empty, or holds cards of one verse: its cards, 12 at most");
        Racks x = Racks.stocked(20, 0, 0);
        x.due("slotOf(3, 0)", NOT_FOUND);
        x.due("lay(3, 0, 11)", 11);
        x.refused("lay(3, 1, 1)", NOT_POSSIBLE);
        x.due("lay(3, 0, 1)", 12);
        x.refused("lay(3, 0, 1)", LIMIT_REACHED);
    }

    public static void slotWithoutCardsKeepsItsVerse() {
        begin("Terms: A slot in which no card is left keeps its verse until it is laid for another one");
        Racks x = Racks.stocked(3, 0, 0).does("lay(6, 0, 1)");
        x.due("sell(0)", 0);
        x.due("slotOf(6, 1)", 0);
        x.due("slotOf(6, 0)", 0);
        x.due("bestSlot(1)", 0);
        x.does("pass(99)");
        x.due("slotOf(6, 0)", 0);
        x.due("lay(6, 1, 2)", 2);
        x.due("slotOf(6, 0)", 1);
        x.refused("lay(6, 0, 1)", NOT_POSSIBLE);
    }

    public static void slotWithoutCardsIsLaidForItsVerse() {
        begin("Terms: A slot in which no card is left keeps its verse (and is laid for it again)");
        Racks x = Racks.stocked(3, 0, 0).does("lay(6, 0, 1)", "sell(0)");
        x.due("lay(6, 0, 2)", 2);
        x.due("slotOf(6, 0)", 0);
    }

    public static void slotWithoutCardsIsBesideOthers() {
        begin("Terms: A slot in which no card is left keeps its verse (for the slots beside it)");
        Racks x = Racks.stocked(3, 0, 0).does("lay(6, 0, 1)", "lay(7, 1, 1)", "sell(0)");
        x.due("slotOf(7, 4)", 1 << 6);
        x.does("lay(6, 1, 1)").due("slotOf(7, 4)", 1 << 6);
        x.does("clear(6)").due("slotOf(7, 4)", 0);
    }

    public static void verseInSeveralSlots() {
        begin("Terms: A verse can be in several slots");
        Racks x = Racks.stocked(120, 0);
        for (int slot = 0; slot < 10; slot++) {
            x.due("lay(" + slot + ", 0, 12)", 12);
        }
        x.due("verseOf(0, 4)", 120);
        for (int slot = 0; slot < 10; slot++) {
            x.due("slotOf(" + slot + ", 0)", 0);
        }
    }

    public static void besideInTheSameRow() {
        begin("Terms: Beside a slot are the slots with numbers that are greater or less by 1 in the same row");
        Racks x = new Racks();
        int inRow = 0;
        for (int slot = 0; slot < 10; slot++) {
            inRow |= (x.ask("slotOf(" + slot + ", 3)") >> slot + 1 & 1) << slot;
            inRow |= slot == 0 ? 0 : (x.ask("slotOf(" + slot + ", 3)") >> slot - 1 & 1) << slot + 10;
        }
        due("slots with the next one beside them", inRow & 1023, 0b0111101111);
        due("slots with the one ahead beside them", inRow >> 10, 0b1111011110);
    }

    public static void besideInTheOtherRow() {
        begin("Terms: and that with a number that is greater or less by 5");
        int[] beside = {34, 69, 138, 276, 520, 65, 162, 324, 648, 272};
        Racks x = new Racks();
        for (int slot = 0; slot < 10; slot++) {
            x.due("slotOf(" + slot + ", 3)", beside[slot]);
        }
    }

    // ---- days

    public static void daysAreNumberedFromZero() {
        begin("Terms: Days are numbered from 0");
        Racks x = new Racks();
        x.due("count(1)", 0);
        x.does("pass(1)").due("count(1)", 1);
    }

    public static void dayOfTheYear() {
        begin("Terms: the day of the year is the number modulo 360");
        Racks x = new Racks().does("season(0, 0, 0)", "season(1, 359, 359)", "season(2, 199, 199)");
        int[] days = {0, 1, 199, 359, 360, 361, 559, 719, 720, 1439, 1440, 1799, 1800, 1999};
        int[] seasons = {0, 9, 2, 1, 0, 9, 2, 1, 0, 1, 0, 1, 0, 2};
        for (int i = 0; i < days.length; i++) {
            x.goesToDay(days[i]);
            for (int occasion = 0; occasion < 3; occasion++) {
                due("season " + occasion + " on day " + days[i], x.ask("occasionOf(" + occasion + ", 2)"),
                        seasons[i] == occasion ? 1 : 0);
            }
        }
    }

    public static void ordersOfTheNewDayCome() {
        begin("Terms: the number becomes greater by 1, and then the orders for that day come into the back room");
        Racks x = new Racks().does("verse(0, 1, 0)", "set(0, 2)", "order(0, 7)");
        x.due("pass(1)", 0);
        x.due("verseOf(0, 3)", 0);
        x.due("pass(1)", 1);
        x.due("verseOf(0, 3)", 7);
        x.due("count(4)", 0);
        x.due("pass(1)", 0);
        x.due("verseOf(0, 3)", 7);
    }

    public static void dayOnWhichAnOrderComes() {
        begin("Terms: the day on which it comes: setting 0 days behind that on which it was placed");
        Racks x = new Racks().does("verse(0, 1, 0)");
        for (int days : new int[] {1, 2, 30}) {
            x.does("set(0, " + days + ")");
            int today = x.ask("count(1)");
            x.due("order(0, 1)", today + days);
            x.due("orderOf(0, 2)", days);
            x.due("pass(" + days + ")", 1);
        }
    }

    public static void eightOrdersOnTheirWay() {
        begin("Terms: At most 8 are on their way");
        Racks x = new Racks().does("verse(0, 1, 0)").repeats(7, "order(0, 1)");
        x.due("count(4)", 7);
        x.due("order(0, 1)", 3);
        x.due("count(4)", 8);
        x.due("orderOf(7, 1)", 1);
        x.refused("order(0, 1)", LIMIT_REACHED);
    }

    // ---- sales

    public static void lowestSlotThatHoldsSome() {
        begin("Terms: takes a card from the lowest slot that holds some of it");
        Racks x = Racks.stocked(9, 0, 0).does("lay(9, 0, 1)", "lay(4, 0, 1)", "lay(0, 0, 1)", "lay(1, 1, 5)");
        x.due("would(0, 1)", 0).due("sell(0)", 0).due("slotOf(0, 1)", 0);
        x.due("would(0, 1)", 4).due("sell(0)", 0).due("slotOf(4, 1)", 0);
        x.due("would(0, 1)", 9).due("sell(0)", 0).due("slotOf(9, 1)", 0);
        x.due("would(0, 1)", 1);
    }

    public static void ownCardsAheadOfAllOthers() {
        begin("Terms: If there is none, it is a card of another verse (and only then)");
        Racks x = Racks.stocked(9, 0, 0).does("lay(0, 1, 1)", "lay(9, 0, 1)");
        x.due("sell(0)", 0);
        x.due("sell(0)", 1);
    }

    public static void anotherVerseOfTheSameOccasion() {
        begin("Terms: it is a card of another verse of the same occasion");
        Racks x = Racks.stocked(9, 1, 2, 0).does("lay(0, 1, 1)", "lay(1, 2, 1)");
        x.due("sell(0)", LOST);
        x.does("verse(1, 1, 0)", "order(3, 1)", "lay(9, 3, 1)");
        x.due("sell(0)", 3);
        x.due("sell(0)", LOST);
    }

    public static void ofTheSlotsWithCards() {
        begin("Terms: of the slots with cards of such");
        Racks x = Racks.stocked(9, 0, 0, 0)
                .does("lay(0, 1, 1)", "lay(3, 2, 1)", "lay(1, 0, 1)", "sell(0)", "sell(1)");
        x.due("slotOf(0, 0)", 1);
        x.due("slotOf(0, 1)", 0);
        x.due("would(0, 1)", 3);
    }

    public static void besideMostSlotsWithTheWantedVerse() {
        begin("Terms: that which is beside most slots that hold the wanted verse");
        Racks x = Racks.stocked(9, 0, 0, 0).does("lay(0, 1, 1)", "lay(3, 2, 1)", "lay(7, 1, 1)");
        x.due("would(0, 1)", 0);
        x.does("lay(4, 0, 1)", "sell(0)").due("would(0, 1)", 3);
        x.does("lay(6, 0, 1)", "sell(0)", "lay(8, 0, 1)", "sell(0)").due("would(0, 1)", 3);
        x.does("clear(4)").due("would(0, 1)", 7);
        x.does("lay(4, 1, 1)", "sell(1)", "sell(1)", "sell(1)").due("would(0, 1)", 3);
    }

    public static void ownVerseBesideDoesNotCount() {
        begin("Terms: beside most slots that hold the wanted verse (not another one of the occasion)");
        Racks x = Racks.stocked(9, 0, 0, 0).does("lay(0, 1, 1)", "lay(1, 1, 1)", "lay(5, 2, 1)", "lay(4, 2, 1)",
                "lay(9, 0, 1)", "sell(0)");
        x.due("would(0, 1)", 4);
    }

    public static void withCardsOrWithout() {
        begin("Terms: slots that hold the wanted verse (with cards or without)");
        Racks x = Racks.stocked(9, 0, 0).does("lay(0, 1, 1)", "lay(9, 1, 1)", "lay(8, 0, 1)");
        x.due("would(0, 1)", 8);
        x.does("sell(0)").due("slotOf(8, 1)", 0);
        x.due("would(0, 1)", 9);
        x.does("clear(8)").due("would(0, 1)", 0);
    }

    public static void besideTheSlotsAtTheEnds() {
        begin("Terms: beside most slots that hold the wanted verse (in the first and in the last slot, too)");
        Racks x = Racks.stocked(9, 0, 0);
        x.does("lay(0, 0, 1)", "lay(2, 1, 1)", "lay(5, 1, 1)", "lay(8, 1, 1)", "sell(0)");
        x.due("would(0, 1)", 5).does("clear(0)").due("would(0, 1)", 2);
        x.does("lay(9, 0, 1)", "sell(0)").due("would(0, 1)", 8);
    }

    public static void ofSeveralTheLowest() {
        begin("Terms: of several the lowest");
        Racks x = Racks.stocked(9, 0, 0).does("lay(8, 1, 1)", "lay(6, 1, 1)", "lay(2, 1, 1)");
        x.due("would(0, 1)", 2);
        x.does("lay(7, 0, 1)", "sell(0)").due("would(0, 1)", 2);
        x.due("sell(0)", 1).due("would(0, 1)", 6);
        x.due("sell(0)", 1).due("would(0, 1)", 8);
        x.due("sell(0)", 1).due("would(0, 1)", NOT_FOUND);
    }

    public static void saleInPlaceOfAnother() {
        begin("Terms: that counts as a sale of the other verse in place of the wanted one");
        Racks x = Racks.stocked(9, 0, 0).does("lay(0, 1, 2)");
        x.due("sell(0)", 1);
        x.due("verseOf(1, 6)", 1).due("verseOf(1, 7)", 1).due("verseOf(1, 8)", 0).due("verseOf(1, 9)", 0);
        x.due("verseOf(0, 6)", 0).due("verseOf(0, 7)", 0).due("verseOf(0, 8)", 0).due("verseOf(0, 9)", 1);
        x.due("sell(1)", 1);
        x.due("verseOf(1, 6)", 2).due("verseOf(1, 7)", 1).due("verseOf(1, 9)", 1);
    }

    public static void lostWithoutSuchASlot() {
        begin("Terms: If there is no such slot either, nothing is sold: a sale is lost");
        Racks x = Racks.stocked(9, 0, 0, 1).does("lay(0, 2, 1)", "lay(1, 1, 1)", "sell(1)");
        int account = x.ask("count(8)");
        x.due("sell(0)", LOST);
        x.due("count(6)", 1).due("verseOf(0, 8)", 1).due("verseOf(0, 9)", 1).due("verseOf(1, 8)", 0);
        x.due("count(5)", 1).due("count(2)", 1).due("count(8)", account);
    }

    public static void lostOutOfSeason() {
        begin("Terms: or if today is not in the season of the occasion, nothing is sold: a sale is lost");
        Racks x = Racks.stocked(9, 0, 0).does("lay(0, 0, 5)", "lay(1, 1, 5)", "season(0, 1, 2)");
        int[] sold = {LOST, 0, 0, LOST};
        for (int day = 0; day < 4; day++) {
            x.goesToDay(day).due("sell(0)", sold[day]);
        }
        x.due("slotOf(0, 1)", 3).due("slotOf(1, 1)", 5).due("verseOf(0, 8)", 2).due("count(6)", 2);
    }

    public static void oneBehindTheOther() {
        begin("Terms: A customer can want two verses, one behind the other");
        Racks x = Racks.stocked(9, 0, 0).does("lay(0, 0, 1)", "lay(1, 1, 1)");
        x.due("sellTwo(0, 0)", 2).due("verseOf(0, 6)", 1).due("verseOf(1, 7)", 1);
        x.does("lay(0, 0, 1)").due("sellTwo(1, 0)", 1);
        x.due("verseOf(0, 7)", 1).due("verseOf(0, 8)", 1);
    }

    public static void togetherOnlyIfBothAreSold() {
        begin("Terms: if something is sold for both, both verses that were sold have sold together once more");
        Racks x = Racks.stocked(9, 0, 1, 0).does("lay(0, 0, 2)", "lay(1, 2, 1)");
        x.due("sellTwo(0, 1)", 1).due("sellTwo(1, 0)", 1).due("sellTwo(1, 1)", 0);
        x.due("count(9)", 0);
        x.does("lay(9, 1, 2)").due("sellTwo(0, 1)", 2);
        x.due("together(2, 1)", 1).due("together(0, 1)", 0).due("count(9)", 1);
    }

    public static void aVerseWithItself() {
        begin("Terms: (a verse with itself, if it is the same one)");
        Racks x = Racks.stocked(9, 0, 0).does("lay(0, 0, 4)");
        x.due("sellTwo(0, 0)", 2).due("together(0, 0)", 1);
        x.due("sellTwo(1, 0)", 2).due("together(0, 0)", 2).due("together(0, 1)", 0);
    }

    // ---- returns

    public static void onlyOutOfSeason() {
        begin("Terms: Cards of verses whose occasion is not in season can be returned");
        Racks x = Racks.stocked(9, 0).does("season(0, 359, 1)", "pass(1)");
        x.refused("giveBack()", NOT_POSSIBLE);
        x.does("pass(1)").due("giveBack()", 9);
        x.does("order(0, 5)").goesToDay(358).isOneChange("giveBack()");
        x.does("pass(1)").refused("giveBack()", NOT_POSSIBLE);
    }

    public static void fromTheRackAndTheBackRoom() {
        begin("Terms: from the rack and the back room");
        Racks x = Racks.stocked(9, 0, 1, 2).does("lay(0, 0, 9)", "lay(9, 2, 4)", "lay(4, 2, 1)", "season(0, 1, 1)");
        x.due("giveBack()", 9).due("verseOf(0, 4)", 0);
        x.does("season(1, 1, 1)").due("giveBack()", 9).due("verseOf(1, 3)", 0);
        x.does("season(2, 1, 1)").due("giveBack()", 9).due("verseOf(2, 3)", 0).due("verseOf(2, 4)", 0);
    }

    public static void eachCardRoundedByItself() {
        begin("Terms: for each card there is (the cost times setting 1, divided by 100, rounded down by itself)");
        paidBack(1, 50, 100, 0);
        paidBack(3, 50, 100, 100);
        paidBack(99, 99, 3, 294);
        paidBack(99, 0, 100, 0);
        paidBack(99, 100, 100, 9900);
        paidBack(0, 100, 100, 0);
    }

    // ---- settings

    public static void settings() {
        begin("Terms: The settings are (in parentheses: range; first value): 0 (0 to 30; 3), 1 (0 to 100; 50)");
        Racks x = new Racks();
        x.due("count(20)", 3).due("count(21)", 50);
        x.due("set(0, 0)", 3).due("set(0, 30)", 0).due("count(20)", 30);
        x.due("set(1, 0)", 50).due("set(1, 100)", 0).due("count(21)", 100);
        x.refused("set(0, -1)", INVALID_ARGUMENT).refused("set(0, 31)", INVALID_ARGUMENT);
        x.refused("set(1, -1)", INVALID_ARGUMENT).refused("set(1, 101)", INVALID_ARGUMENT);
    }
}
