/** At least one test for each promise of the document: ordinary inputs, named edges, wrong inputs. */
public final class PromiseTest extends Checks {
    public static void main(String[] args) throws IllegalAccessException {
        runAll(PromiseTest.class);
    }

    /** An object whose orders come at once. */
    private static CardRacks atOnce() {
        CardRacks x = new CardRacks();
        x.set(0, 0);
        return x;
    }

    /** An object with verses of the occasions, at price 10 and cost 4, each with the stock. */
    private static CardRacks stocked(int stock, int... occasions) {
        CardRacks x = atOnce();
        for (int i = 0; i < occasions.length; i++) {
            x.verse(occasions[i], 10, 4);
            x.order(i, stock);
        }
        return x;
    }

    private static void write(CardRacks x, String text) {
        x.clearText();
        for (int i = 0; i < text.length(); i++) {
            x.type(text.charAt(i));
        }
    }

    private static void faultDue(CardRacks x, String text, int position, int reason, int cause) {
        write(x, text);
        due("fault(0) of " + text, x.fault(0), position);
        due("fault(1) of " + text, x.fault(1), reason);
        due("fault(2) of " + text, x.fault(2), cause);
        int states = x.count(10);
        due("play() of " + text, x.play(), NOT_POSSIBLE);
        due("states behind play() of " + text, x.count(10), states);
    }

    private static void noFault(CardRacks x, String text) {
        write(x, text);
        for (int what = 0; what <= 2; what++) {
            due("fault(" + what + ") of " + text, x.fault(what), NOT_FOUND);
        }
    }

    // ---- promise 1

    public static void newObject() {
        begin("1 CardRacks");
        CardRacks x = new CardRacks();
        for (int what = 0; what <= 11; what++) {
            due("count(" + what + ")", x.count(what), what == 8 ? 100000000 : 0);
        }
        due("count(20)", x.count(20), 3);
        due("count(21)", x.count(21), 50);
        for (int slot = 0; slot < 10; slot++) {
            due("slotOf(" + slot + ", 0)", x.slotOf(slot, 0), NOT_FOUND);
            due("slotOf(" + slot + ", 1)", x.slotOf(slot, 1), 0);
            due("slotOf(" + slot + ", 2)", x.slotOf(slot, 2), 0);
        }
        for (int occasion = 0; occasion < 5; occasion++) {
            due("occasionOf(" + occasion + ", 0)", x.occasionOf(occasion, 0), 0);
            due("occasionOf(" + occasion + ", 1)", x.occasionOf(occasion, 1), 359);
        }
        due("undo()", x.undo(), NOT_POSSIBLE);
        CardRacks other = new CardRacks();
        other.verse(0, 1, 1);
        other.type('d');
        due("verses of another object", x.count(0), 0);
        due("text of another object", x.count(11), 0);
    }

    // ---- promise 2

    public static void verse() {
        begin("2 verse");
        CardRacks x = new CardRacks();
        due("verse(-1, 1, 0)", x.verse(-1, 1, 0), INVALID_ARGUMENT);
        due("verse(5, 1, 0)", x.verse(5, 1, 0), INVALID_ARGUMENT);
        due("verse(0, 0, 0)", x.verse(0, 0, 0), INVALID_ARGUMENT);
        due("verse(0, 100, 0)", x.verse(0, 100, 0), INVALID_ARGUMENT);
        due("verse(0, 1, -1)", x.verse(0, 1, -1), INVALID_ARGUMENT);
        due("verse(0, 1, 100)", x.verse(0, 1, 100), INVALID_ARGUMENT);
        due("no verse yet", x.count(0), 0);
        due("verse(0, 1, 0)", x.verse(0, 1, 0), 0);
        due("verse(4, 99, 99)", x.verse(4, 99, 99), 1);
        due("verse(2, 7, 30)", x.verse(2, 7, 30), 2);
        due("its occasion", x.verseOf(2, 0), 2);
        due("its price", x.verseOf(2, 1), 7);
        due("its cost", x.verseOf(2, 2), 30);
        for (int what = 3; what <= 9; what++) {
            due("verseOf(2, " + what + ")", x.verseOf(2, what), 0);
        }
        for (int i = 3; i < 12; i++) {
            due("verse " + i, x.verse(1, 2, 3), i);
        }
        due("a 13th verse", x.verse(1, 2, 3), LIMIT_REACHED);
        due("a wrong 13th verse", x.verse(1, 0, 3), INVALID_ARGUMENT);
        due("verses", x.count(0), 12);
        due("the last verse", x.verseOf(11, 2), 3);
    }

    // ---- promise 3

    public static void season() {
        begin("3 season");
        CardRacks x = new CardRacks();
        due("season(-1, 0, 0)", x.season(-1, 0, 0), INVALID_ARGUMENT);
        due("season(5, 0, 0)", x.season(5, 0, 0), INVALID_ARGUMENT);
        due("season(0, -1, 0)", x.season(0, -1, 0), INVALID_ARGUMENT);
        due("season(0, 360, 0)", x.season(0, 360, 0), INVALID_ARGUMENT);
        due("season(0, 0, -1)", x.season(0, 0, -1), INVALID_ARGUMENT);
        due("season(0, 0, 360)", x.season(0, 0, 360), INVALID_ARGUMENT);
        due("nothing is changed", x.occasionOf(0, 1), 359);
        x.pass(10);
        due("season(0, 10, 10)", x.season(0, 10, 10), 1);
        due("season(0, 11, 20)", x.season(0, 11, 20), 0);
        due("season(0, 0, 9)", x.season(0, 0, 9), 0);
        due("season(0, 359, 10)", x.season(0, 359, 10), 1);
        due("season(0, 0, 0)", x.season(0, 0, 0), 0);
        due("season(0, 1, 0)", x.season(0, 1, 0), 1);
        due("season(0, 359, 9)", x.season(0, 359, 9), 0);
        due("season(0, 10, 9)", x.season(0, 10, 9), 1);
        due("season(4, 359, 359)", x.season(4, 359, 359), 0);
        due("first of 4", x.occasionOf(4, 0), 359);
        due("last of 4", x.occasionOf(4, 1), 359);
        due("first of 0", x.occasionOf(0, 0), 10);
        due("last of 0", x.occasionOf(0, 1), 9);
        due("first of 3", x.occasionOf(3, 0), 0);
    }

    // ---- promise 4

    public static void order() {
        begin("4 order");
        CardRacks x = new CardRacks();
        due("order(0, 1) without verses", x.order(0, 1), INVALID_ARGUMENT);
        x.verse(0, 10, 7);
        x.verse(1, 10, 5);
        due("order(-1, 1)", x.order(-1, 1), INVALID_ARGUMENT);
        due("order(2, 1)", x.order(2, 1), INVALID_ARGUMENT);
        due("order(0, 0)", x.order(0, 0), INVALID_ARGUMENT);
        due("order(0, 1000)", x.order(0, 1000), INVALID_ARGUMENT);
        due("order(0, 10)", x.order(0, 10), 3);
        due("paid at once", x.count(8), 100000000 - 70);
        due("not there yet", x.verseOf(0, 3), 0);
        due("on its way", x.verseOf(0, 5), 10);
        x.pass(5);
        due("there", x.verseOf(0, 3), 10);
        due("order(1, 999)", x.order(1, 999), 8);
        due("paid for it, too", x.count(8), 100000000 - 70 - 4995);
        x.set(0, 0);
        due("order(1, 1) at once", x.order(1, 1), 5);
        due("came at once", x.verseOf(1, 3), 1);
        due("on its way", x.verseOf(1, 5), 999);
        due("paid, too", x.count(8), 100000000 - 70 - 4995 - 5);
    }

    public static void orderLimits() {
        begin("4 order, limits");
        CardRacks x = new CardRacks();
        x.verse(0, 10, 1);
        x.verse(0, 10, 1);
        for (int i = 0; i < 8; i++) {
            due("order " + i, x.order(0, 999), 3);
        }
        due("a ninth order", x.order(1, 1), LIMIT_REACHED);
        due("a wrong ninth order", x.order(1, 0), INVALID_ARGUMENT);
        due("orders", x.count(4), 8);
        x.set(0, 0);
        due("a ninth that comes at once", x.order(1, 1), 0);
        due("9th hundreds", x.order(0, 999), 0);
        due("999 more", x.order(0, 999), 0);
        due("up to 9999", x.order(0, 10), LIMIT_REACHED);
        due("up to 9999", x.order(0, 9), 0);
        due("one more", x.order(0, 1), LIMIT_REACHED);
        due("of the other one there may be more", x.order(1, 999), 0);
        x.pass(3);
        due("all are there", x.verseOf(0, 3), 9999);
        x.set(0, 1);
        due("one more on its way", x.order(0, 1), LIMIT_REACHED);
        x.lay(0, 0, 1);
        due("the rack does not count", x.order(0, 1), 4);
        due("and again", x.order(0, 1), LIMIT_REACHED);
    }

    // ---- promise 5

    public static void lay() {
        begin("5 lay");
        CardRacks x = stocked(30, 0, 0);
        due("lay(-1, 0, 1)", x.lay(-1, 0, 1), INVALID_ARGUMENT);
        due("lay(10, 0, 1)", x.lay(10, 0, 1), INVALID_ARGUMENT);
        due("lay(0, -1, 1)", x.lay(0, -1, 1), INVALID_ARGUMENT);
        due("lay(0, 2, 1)", x.lay(0, 2, 1), INVALID_ARGUMENT);
        due("lay(0, 0, 0)", x.lay(0, 0, 0), INVALID_ARGUMENT);
        due("lay(0, 0, 13)", x.lay(0, 0, 13), INVALID_ARGUMENT);
        due("lay(0, 0, 5)", x.lay(0, 0, 5), 5);
        due("lay(0, 0, 7)", x.lay(0, 0, 7), 12);
        due("back room", x.verseOf(0, 3), 18);
        due("its slot", x.slotOf(0, 0), 0);
        due("its cards", x.slotOf(0, 1), 12);
        due("lay(0, 0, 1)", x.lay(0, 0, 1), LIMIT_REACHED);
        due("lay(0, 1, 1)", x.lay(0, 1, 1), NOT_POSSIBLE);
        due("lay(9, 0, 12)", x.lay(9, 0, 12), 12);
        due("lay(8, 0, 7): too few", x.lay(8, 0, 7), NOT_POSSIBLE);
        due("lay(9, 0, 7): too few and too many", x.lay(9, 0, 7), NOT_POSSIBLE);
        due("lay(8, 0, 5)", x.lay(8, 0, 5), 5);
        due("lay(8, 0, 1)", x.lay(8, 0, 1), 6);
        due("back room", x.verseOf(0, 3), 0);
        due("in the rack", x.verseOf(0, 4), 30);
        due("lay(0, 1, 12): of another verse and too many", x.lay(0, 1, 12), NOT_POSSIBLE);
        due("nothing is paid for laying", x.count(8), 100000000 - 240);
        CardRacks y = stocked(1, 0, 1);
        y.lay(3, 0, 1);
        y.sell(0);
        due("no card left", y.slotOf(3, 1), 0);
        due("it keeps its verse", y.slotOf(3, 0), 0);
        y.lay(9, 1, 1);
        due("lay(9, 0, 1) onto one card", y.lay(9, 0, 1), NOT_POSSIBLE);
        y.order(0, 1);
        due("lay(9, 0, 1) onto one card", y.lay(9, 0, 1), NOT_POSSIBLE);
        y.clear(9);
        due("lay(3, 1, 1)", y.lay(3, 1, 1), 1);
        due("it has another verse now", y.slotOf(3, 0), 1);
        due("what was sold out of it stays", y.slotOf(3, 2), 1);
        due("lay(3, 0, 1)", y.lay(3, 0, 1), NOT_POSSIBLE);
    }

    // ---- promise 6

    public static void clear() {
        begin("6 clear");
        CardRacks x = stocked(20, 0, 1);
        due("clear(-1)", x.clear(-1), INVALID_ARGUMENT);
        due("clear(10)", x.clear(10), INVALID_ARGUMENT);
        due("clear(0)", x.clear(0), NOT_POSSIBLE);
        x.lay(0, 1, 4);
        x.lay(9, 0, 1);
        due("clear(0)", x.clear(0), 4);
        due("it is empty", x.slotOf(0, 0), NOT_FOUND);
        due("it has no cards", x.slotOf(0, 1), 0);
        due("the back room has them", x.verseOf(1, 3), 20);
        due("the other verse's are where they were", x.verseOf(0, 3), 19);
        due("clear(0)", x.clear(0), NOT_POSSIBLE);
        x.sell(0);
        due("clear(9) without cards", x.clear(9), 0);
        due("clear(9)", x.clear(9), NOT_POSSIBLE);
        CardRacks y = stocked(12, 0, 0);
        y.lay(0, 0, 12);
        y.set(0, 2);
        for (int i = 0; i < 5; i++) {
            y.order(0, 999);
        }
        y.set(0, 0);
        for (int i = 0; i < 5; i++) {
            y.order(0, 998);
        }
        y.order(0, 3);
        due("12 more would be 10000", y.clear(0), LIMIT_REACHED);
        due("it is as before", y.slotOf(0, 1), 12);
        y.sell(0);
        due("11 more are 9999", y.clear(0), 11);
        due("back room", y.verseOf(0, 3), 9999 - 4995);
    }

    // ---- promise 7

    public static void sell() {
        begin("7 sell");
        CardRacks x = stocked(20, 0, 1);
        due("sell(-1)", x.sell(-1), INVALID_ARGUMENT);
        due("sell(2)", x.sell(2), INVALID_ARGUMENT);
        due("out of the back room nothing is sold", x.sell(0), LOST);
        due("wanted", x.verseOf(0, 9), 1);
        due("lost", x.verseOf(0, 8), 1);
        due("sold", x.verseOf(0, 6), 0);
        x.lay(7, 0, 2);
        x.lay(2, 0, 1);
        x.lay(0, 1, 3);
        int account = x.count(8);
        due("sell(0)", x.sell(0), 0);
        due("the lowest slot", x.slotOf(2, 1), 0);
        due("its price", x.count(8), account + 10);
        due("sell(0)", x.sell(0), 0);
        due("the next slot", x.slotOf(7, 1), 1);
        due("sold out of 2", x.slotOf(2, 2), 1);
        due("sold out of 7", x.slotOf(7, 2), 1);
        due("sell(0)", x.sell(0), 0);
        due("sell(0): no other of the occasion", x.sell(0), LOST);
        due("a lost sale earns nothing", x.count(8), account + 30);
        due("sold", x.verseOf(0, 6), 3);
        due("not in place of another", x.verseOf(0, 7), 0);
        due("wanted", x.verseOf(0, 9), 5);
        x.season(1, 1, 359);
        due("not in season", x.sell(1), LOST);
        due("cards of 1", x.slotOf(0, 1), 3);
        x.pass(1);
        due("in season", x.sell(1), 1);
        due("lost of 1", x.verseOf(1, 8), 1);
        due("lost in all", x.count(6), 3);
    }

    public static void sellAnother() {
        begin("7 sell, another verse");
        CardRacks x = atOnce();
        x.verse(2, 10, 0);
        x.verse(2, 20, 0);
        x.verse(2, 40, 0);
        x.verse(3, 80, 0);
        for (int i = 0; i < 4; i++) {
            x.order(i, 50);
        }
        x.lay(0, 3, 5);
        x.lay(1, 1, 3);
        x.lay(9, 2, 2);
        int account = x.count(8);
        due("none is beside the wanted one: the lowest", x.sell(0), 1);
        due("price of the one sold", x.count(8), account + 20);
        due("sold", x.verseOf(1, 6), 1);
        due("in place of another", x.verseOf(1, 7), 1);
        due("wanted", x.verseOf(1, 9), 0);
        due("wanted", x.verseOf(0, 9), 1);
        due("sold of the wanted one", x.verseOf(0, 6), 0);
        due("not lost", x.verseOf(0, 8), 0);
        x.lay(8, 0, 1);
        x.sell(0);
        due("the slot beside one without cards", x.sell(0), 2);
        x.lay(6, 0, 1);
        x.lay(2, 0, 1);
        x.sell(0);
        x.sell(0);
        due("the slot beside most", x.would(0, 1), 1);
        x.lay(4, 0, 1);
        x.sell(0);
        due("of several the lowest", x.would(0, 1), 1);
        due("sell(0)", x.sell(0), 1);
        due("sell(0)", x.sell(0), 1);
        due("the slot has no cards now", x.slotOf(1, 1), 0);
        due("sell(0)", x.sell(0), 2);
        due("nothing of the occasion is left", x.sell(0), LOST);
        due("in place of another", x.verseOf(2, 7), 2);
        due("sold out of 9", x.slotOf(9, 2), 2);
        x.lay(9, 2, 1);
        x.season(2, 1, 1);
        due("not in season", x.sell(0), LOST);
        due("one slot has cards", x.slotOf(9, 1), 1);
        CardRacks y = stocked(9, 0, 0);
        y.lay(0, 0, 1);
        y.sell(0);
        y.lay(4, 1, 1);
        y.lay(6, 1, 1);
        y.lay(5, 1, 1);
        due("beside the slot 0", y.sell(0), 1);
        due("out of the slot 5", y.slotOf(5, 2), 1);
        y.clear(0);
        y.lay(0, 1, 1);
        due("the slot 0 itself", y.sell(0), 1);
        due("out of the slot 0", y.slotOf(0, 2), 2);
    }

    // ---- promise 8

    public static void sellTwo() {
        begin("8 sellTwo");
        CardRacks x = stocked(20, 0, 0, 1);
        due("sellTwo(-1, 0)", x.sellTwo(-1, 0), INVALID_ARGUMENT);
        due("sellTwo(0, -1)", x.sellTwo(0, -1), INVALID_ARGUMENT);
        due("sellTwo(3, 0)", x.sellTwo(3, 0), INVALID_ARGUMENT);
        due("sellTwo(0, 3)", x.sellTwo(0, 3), INVALID_ARGUMENT);
        due("nobody wanted it", x.verseOf(0, 9), 0);
        due("sellTwo(0, 2)", x.sellTwo(0, 2), 0);
        due("both are lost", x.count(6), 2);
        x.lay(0, 0, 1);
        due("sellTwo(0, 2)", x.sellTwo(0, 2), 1);
        x.lay(0, 0, 1);
        due("sellTwo(2, 0)", x.sellTwo(2, 0), 1);
        due("they did not sell together", x.together(0, 2), 0);
        x.lay(0, 0, 1);
        x.lay(1, 1, 5);
        x.lay(2, 2, 5);
        due("one behind the other", x.sellTwo(0, 0), 2);
        due("what was sold: 0 and 1", x.together(0, 1), 1);
        due("alike the other way", x.together(1, 0), 1);
        due("not what was wanted", x.together(0, 0), 0);
        due("wanted twice", x.verseOf(0, 9), 5);
        due("in place of another", x.verseOf(1, 7), 1);
        due("sellTwo(0, 0)", x.sellTwo(0, 0), 2);
        due("the same one", x.together(1, 1), 1);
        due("sellTwo(2, 1)", x.sellTwo(2, 1), 2);
        due("together(1, 2)", x.together(1, 2), 1);
        due("together(2, 1)", x.together(2, 1), 1);
        due("account", x.count(8), 100000000 - 240 + 80);
    }

    // ---- promise 9

    public static void giveBack() {
        begin("9 giveBack");
        CardRacks x = atOnce();
        x.verse(0, 10, 7);
        x.verse(1, 10, 99);
        x.verse(0, 10, 1);
        x.verse(2, 10, 9);
        due("no cards at all", x.giveBack(), NOT_POSSIBLE);
        for (int i = 0; i < 4; i++) {
            x.order(i, 10);
        }
        x.set(0, 5);
        x.order(0, 10);
        x.lay(0, 0, 3);
        x.lay(5, 0, 1);
        x.lay(1, 1, 2);
        x.lay(2, 2, 2);
        int account = x.count(8);
        due("all are in season", x.giveBack(), NOT_POSSIBLE);
        x.season(0, 1, 359);
        due("giveBack()", x.giveBack(), 20);
        due("3 for each card of verse 0, 0 of verse 2", x.count(8), account + 30);
        due("returned", x.count(7), 20);
        due("back room of 0", x.verseOf(0, 3), 0);
        due("rack of 0", x.verseOf(0, 4), 0);
        due("slot keeps its verse", x.slotOf(0, 0), 0);
        due("slot has no cards", x.slotOf(0, 1), 0);
        due("on its way stays", x.verseOf(0, 5), 10);
        due("sold out of the slot: none", x.slotOf(0, 2), 0);
        due("others stay", x.verseOf(1, 3), 8);
        due("nothing is sold by it", x.count(5), 0);
        due("others stay in the rack", x.verseOf(1, 4), 2);
        due("giveBack()", x.giveBack(), NOT_POSSIBLE);
        x.set(1, 100);
        x.season(1, 5, 5);
        due("giveBack()", x.giveBack(), 10);
        due("all of the cost", x.count(8), account + 30 + 990);
        x.set(1, 0);
        x.season(2, 359, 359);
        due("giveBack()", x.giveBack(), 10);
        due("nothing of it", x.count(8), account + 30 + 990);
        due("returned", x.count(7), 40);
    }

    // ---- promise 10

    public static void pass() {
        begin("10 pass");
        CardRacks x = new CardRacks();
        due("pass(-1)", x.pass(-1), INVALID_ARGUMENT);
        due("pass(0)", x.pass(0), INVALID_ARGUMENT);
        due("pass(100)", x.pass(100), INVALID_ARGUMENT);
        due("pass(1)", x.pass(1), 0);
        due("the day", x.count(1), 1);
        for (int i = 0; i < 20; i++) {
            due("pass(99)", x.pass(99), 0);
        }
        due("the day", x.count(1), 1981);
        due("pass(19)", x.pass(19), LIMIT_REACHED);
        due("pass(100)", x.pass(100), INVALID_ARGUMENT);
        due("pass(18)", x.pass(18), 0);
        due("the day", x.count(1), 1999);
        due("pass(1)", x.pass(1), LIMIT_REACHED);
        due("the day", x.count(1), 1999);
    }

    public static void passOrders() {
        begin("10 pass, orders");
        CardRacks x = new CardRacks();
        x.verse(0, 10, 1);
        x.verse(0, 10, 1);
        x.order(0, 1);
        x.order(1, 2);
        x.set(0, 30);
        x.order(0, 4);
        x.set(0, 1);
        x.order(0, 8);
        due("pass(1)", x.pass(1), 1);
        due("back room of 0", x.verseOf(0, 3), 8);
        due("pass(1)", x.pass(1), 0);
        due("pass(1)", x.pass(1), 2);
        due("back room of 0", x.verseOf(0, 3), 9);
        due("back room of 1", x.verseOf(1, 3), 2);
        due("pass(26)", x.pass(26), 0);
        due("pass(99)", x.pass(99), 1);
        due("back room of 0", x.verseOf(0, 3), 13);
        due("on its way", x.count(4), 0);
        for (int i = 0; i < 8; i++) {
            x.order(0, 1);
        }
        due("eight at once", x.pass(2), 8);
        due("back room of 0", x.verseOf(0, 3), 21);
        CardRacks y = new CardRacks();
        y.verse(0, 10, 0);
        for (int i = 0; i < 20; i++) {
            y.pass(99);
        }
        y.pass(18);
        due("beyond the last day", y.order(0, 5), 2001);
        due("pass(1)", y.pass(1), 0);
        due("pass(1)", y.pass(1), LIMIT_REACHED);
        due("it stays on its way", y.orderOf(0, 2), 2);
    }

    // ---- promise 11

    public static void set() {
        begin("11 set");
        CardRacks x = new CardRacks();
        due("set(-1, 0)", x.set(-1, 0), INVALID_ARGUMENT);
        due("set(2, 0)", x.set(2, 0), INVALID_ARGUMENT);
        due("set(0, -1)", x.set(0, -1), INVALID_ARGUMENT);
        due("set(0, 31)", x.set(0, 31), INVALID_ARGUMENT);
        due("set(1, -1)", x.set(1, -1), INVALID_ARGUMENT);
        due("set(1, 101)", x.set(1, 101), INVALID_ARGUMENT);
        due("set(0, 30)", x.set(0, 30), 3);
        due("set(1, 100)", x.set(1, 100), 50);
        due("set(0, 0)", x.set(0, 0), 30);
        due("set(1, 0)", x.set(1, 0), 100);
        due("set(0, 0)", x.set(0, 0), 0);
        due("set(1, 60)", x.set(1, 60), 0);
        due("setting 0", x.count(20), 0);
        due("setting 1", x.count(21), 60);
        x.set(0, 2);
        x.verse(0, 1, 0);
        x.order(0, 1);
        x.set(0, 9);
        due("an order comes as it was to come", x.orderOf(0, 2), 2);
    }

    // ---- promise 12

    public static void verseOf() {
        begin("12 verseOf");
        CardRacks x = atOnce();
        due("verseOf(0, 0)", x.verseOf(0, 0), INVALID_ARGUMENT);
        x.verse(3, 21, 13);
        x.verse(3, 99, 0);
        due("verseOf(-1, 0)", x.verseOf(-1, 0), INVALID_ARGUMENT);
        due("verseOf(2, 0)", x.verseOf(2, 0), INVALID_ARGUMENT);
        due("verseOf(0, -1)", x.verseOf(0, -1), INVALID_ARGUMENT);
        due("verseOf(0, 10)", x.verseOf(0, 10), INVALID_ARGUMENT);
        x.order(0, 40);
        x.set(0, 4);
        x.order(0, 5);
        x.order(1, 3);
        x.order(0, 6);
        x.lay(1, 0, 2);
        x.lay(8, 0, 1);
        x.sell(0);
        x.sell(1);
        x.sell(1);
        x.sell(1);
        int[] ofZero = {3, 21, 13, 37, 0, 11, 3, 2, 0, 1};
        int[] ofOne = {3, 99, 0, 0, 0, 3, 0, 0, 1, 3};
        for (int what = 0; what <= 9; what++) {
            due("verseOf(0, " + what + ")", x.verseOf(0, what), ofZero[what]);
            due("verseOf(1, " + what + ")", x.verseOf(1, what), ofOne[what]);
        }
        x.lay(3, 0, 12);
        x.lay(4, 0, 1);
        due("in the rack", x.verseOf(0, 4), 13);
    }

    // ---- promise 13

    public static void slotOf() {
        begin("13 slotOf");
        CardRacks x = stocked(50, 0, 1, 0);
        due("slotOf(-1, 0)", x.slotOf(-1, 0), INVALID_ARGUMENT);
        due("slotOf(10, 0)", x.slotOf(10, 0), INVALID_ARGUMENT);
        due("slotOf(0, -1)", x.slotOf(0, -1), INVALID_ARGUMENT);
        due("slotOf(0, 5)", x.slotOf(0, 5), INVALID_ARGUMENT);
        for (int slot = 0; slot < 10; slot++) {
            int beside = 0;
            for (int other = 0; other < 10; other++) {
                boolean sameRow = (slot < 5) == (other < 5);
                boolean near = sameRow ? Math.abs(slot - other) == 1 : Math.abs(slot - other) == 5;
                beside += near ? 1 << other : 0;
            }
            due("slotOf(" + slot + ", 3)", x.slotOf(slot, 3), beside);
        }
        x.lay(7, 0, 1);
        x.lay(6, 1, 2);
        x.lay(8, 2, 3);
        x.lay(2, 0, 4);
        x.lay(3, 2, 5);
        due("slotOf(7, 0)", x.slotOf(7, 0), 0);
        due("slotOf(6, 0)", x.slotOf(6, 0), 1);
        due("slotOf(3, 1)", x.slotOf(3, 1), 5);
        due("slotOf(7, 4)", x.slotOf(7, 4), 1 << 8 | 1 << 2);
        due("slotOf(6, 4)", x.slotOf(6, 4), 0);
        due("slotOf(3, 4)", x.slotOf(3, 4), 1 << 8 | 1 << 2);
        due("slotOf(2, 4)", x.slotOf(2, 4), 1 << 7 | 1 << 3);
        due("slotOf(4, 0)", x.slotOf(4, 0), NOT_FOUND);
        due("slotOf(4, 1)", x.slotOf(4, 1), 0);
        due("slotOf(4, 2)", x.slotOf(4, 2), 0);
        due("slotOf(4, 4)", x.slotOf(4, 4), NOT_FOUND);
        for (int i = 0; i < 4; i++) {
            x.sell(0);
        }
        due("sold out of it", x.slotOf(2, 2), 4);
        due("without cards it is beside, too", x.slotOf(7, 4), 1 << 8 | 1 << 2);
        due("it keeps its verse", x.slotOf(2, 0), 0);
        x.clear(2);
        due("cleared, it is not", x.slotOf(7, 4), 1 << 8);
        due("sold out of it stays", x.slotOf(2, 2), 4);
        x.lay(0, 0, 1);
        x.lay(1, 2, 1);
        x.lay(5, 2, 1);
        due("slotOf(0, 4)", x.slotOf(0, 4), 1 << 1 | 1 << 5);
        due("slotOf(1, 4)", x.slotOf(1, 4), 1);
        due("slotOf(5, 4)", x.slotOf(5, 4), 1);
    }

    // ---- promise 14

    public static void orderOf() {
        begin("14 orderOf");
        CardRacks x = new CardRacks();
        x.verse(0, 10, 1);
        x.verse(0, 10, 1);
        due("orderOf(-1, 0)", x.orderOf(-1, 0), INVALID_ARGUMENT);
        due("orderOf(0, -1)", x.orderOf(0, -1), INVALID_ARGUMENT);
        due("orderOf(0, 3)", x.orderOf(0, 3), INVALID_ARGUMENT);
        due("orderOf(9, 3)", x.orderOf(9, 3), INVALID_ARGUMENT);
        due("orderOf(0, 0)", x.orderOf(0, 0), NOT_FOUND);
        x.order(0, 11);
        x.order(1, 12);
        x.set(0, 2);
        x.order(1, 13);
        x.set(0, 4);
        x.order(0, 14);
        x.set(0, 3);
        x.order(0, 15);
        int[] verses = {1, 0, 1, 0, 0};
        int[] amounts = {13, 11, 12, 15, 14};
        int[] days = {2, 3, 3, 3, 4};
        for (int i = 0; i < 5; i++) {
            due("orderOf(" + i + ", 0)", x.orderOf(i, 0), verses[i]);
            due("orderOf(" + i + ", 1)", x.orderOf(i, 1), amounts[i]);
            due("orderOf(" + i + ", 2)", x.orderOf(i, 2), days[i]);
        }
        due("orderOf(5, 0)", x.orderOf(5, 0), NOT_FOUND);
        due("orderOf(8, 0)", x.orderOf(8, 0), NOT_FOUND);
        x.pass(2);
        due("the first one came", x.orderOf(0, 1), 11);
        due("in how many days", x.orderOf(0, 2), 1);
        due("orderOf(3, 2)", x.orderOf(3, 2), 2);
        due("orderOf(4, 2)", x.orderOf(4, 2), NOT_FOUND);
        x.set(0, 1);
        x.order(1, 16);
        due("behind those for the same day", x.orderOf(3, 1), 16);
        due("ahead of a later one", x.orderOf(4, 1), 14);
    }

    // ---- promise 15

    public static void occasionOf() {
        begin("15 occasionOf");
        CardRacks x = new CardRacks();
        due("occasionOf(-1, 0)", x.occasionOf(-1, 0), INVALID_ARGUMENT);
        due("occasionOf(5, 0)", x.occasionOf(5, 0), INVALID_ARGUMENT);
        due("occasionOf(0, -1)", x.occasionOf(0, -1), INVALID_ARGUMENT);
        due("occasionOf(0, 5)", x.occasionOf(0, 5), INVALID_ARGUMENT);
        int[] wholeYear = {0, 359, 1, 0, 360};
        for (int what = 0; what <= 4; what++) {
            due("occasionOf(4, " + what + ")", x.occasionOf(4, what), wholeYear[what]);
        }
        x.season(1, 20, 30);
        x.season(2, 350, 5);
        x.season(3, 100, 99);
        x.season(0, 100, 98);
        due("season(0, 100, 98) goes on", x.occasionOf(0, 4), 99);
        due("season(1, 20, 30) begins", x.occasionOf(1, 3), 20);
        due("season(2, 350, 5) goes on", x.occasionOf(2, 4), 6);
        due("season(3, 100, 99) goes on", x.occasionOf(3, 4), 360);
        due("season(3, 100, 99) is", x.occasionOf(3, 3), 0);
    }

    public static void occasionOfDays() {
        begin("15 occasionOf by days");
        CardRacks x = new CardRacks();
        x.season(1, 20, 30);
        x.season(2, 350, 5);
        int[] days = {19, 1, 10, 1, 99, 99, 99, 21, 1, 9, 1, 5, 1, 14};
        int[] in1 = {0, 1, 1, 0, 0, 0, 0, 0, 0, 0, 0, 0, 0, 1};
        int[] until1 = {1, 0, 0, 349, 250, 151, 52, 31, 30, 21, 20, 15, 14, 0};
        int[] left1 = {0, 11, 1, 0, 0, 0, 0, 0, 0, 0, 0, 0, 0, 11};
        int[] in2 = {0, 0, 0, 0, 0, 0, 0, 0, 1, 1, 1, 1, 0, 0};
        int[] until2 = {331, 330, 320, 319, 220, 121, 22, 1, 0, 0, 0, 0, 344, 330};
        int[] left2 = {0, 0, 0, 0, 0, 0, 0, 0, 16, 7, 6, 1, 0, 0};
        for (int i = 0; i < days.length; i++) {
            x.pass(days[i]);
            String day = " on day " + x.count(1);
            due("occasionOf(1, 2)" + day, x.occasionOf(1, 2), in1[i]);
            due("occasionOf(1, 3)" + day, x.occasionOf(1, 3), until1[i]);
            due("occasionOf(1, 4)" + day, x.occasionOf(1, 4), left1[i]);
            due("occasionOf(2, 2)" + day, x.occasionOf(2, 2), in2[i]);
            due("occasionOf(2, 3)" + day, x.occasionOf(2, 3), until2[i]);
            due("occasionOf(2, 4)" + day, x.occasionOf(2, 4), left2[i]);
        }
    }

    // ---- promise 16

    public static void together() {
        begin("16 together");
        CardRacks x = atOnce();
        due("together(0, 0)", x.together(0, 0), INVALID_ARGUMENT);
        for (int i = 0; i < 12; i++) {
            x.verse(i % 5, 10, 0);
        }
        due("together(-1, 0)", x.together(-1, 0), INVALID_ARGUMENT);
        due("together(0, -1)", x.together(0, -1), INVALID_ARGUMENT);
        due("together(12, 0)", x.together(12, 0), INVALID_ARGUMENT);
        due("together(0, 12)", x.together(0, 12), INVALID_ARGUMENT);
        x.order(0, 20);
        x.order(11, 20);
        x.lay(0, 0, 12);
        x.lay(1, 11, 12);
        x.sellTwo(11, 11);
        x.sellTwo(0, 11);
        x.sellTwo(11, 0);
        x.sellTwo(0, 11);
        x.sell(0);
        x.sell(11);
        due("together(11, 11)", x.together(11, 11), 1);
        due("together(0, 11)", x.together(0, 11), 3);
        due("together(11, 0)", x.together(11, 0), 3);
        due("together(0, 0)", x.together(0, 0), 0);
        due("together(1, 11)", x.together(1, 11), 0);
    }

    // ---- promise 17

    public static void would() {
        begin("17 would");
        CardRacks x = stocked(20, 0, 0, 1);
        due("would(-1, 0)", x.would(-1, 0), INVALID_ARGUMENT);
        due("would(3, 0)", x.would(3, 0), INVALID_ARGUMENT);
        due("would(0, -1)", x.would(0, -1), INVALID_ARGUMENT);
        due("would(0, 2)", x.would(0, 2), INVALID_ARGUMENT);
        due("would(0, 0)", x.would(0, 0), NOT_FOUND);
        due("would(0, 1)", x.would(0, 1), NOT_FOUND);
        x.lay(3, 2, 1);
        due("not one of another occasion", x.would(0, 0), NOT_FOUND);
        x.lay(9, 1, 1);
        due("would(0, 0)", x.would(0, 0), 1);
        due("would(0, 1)", x.would(0, 1), 9);
        x.lay(4, 0, 1);
        due("would(0, 0)", x.would(0, 0), 0);
        due("would(0, 1)", x.would(0, 1), 4);
        due("nobody wanted it", x.verseOf(0, 9), 0);
        due("no card is sold", x.count(2), 3);
        x.season(0, 1, 1);
        due("not in season", x.would(0, 0), NOT_FOUND);
        due("not in season", x.would(1, 1), NOT_FOUND);
        due("another occasion is", x.would(2, 1), 3);
    }

    // ---- promise 18

    public static void bestSlot() {
        begin("18 bestSlot");
        CardRacks x = stocked(200, 0, 1);
        due("bestSlot(-1)", x.bestSlot(-1), INVALID_ARGUMENT);
        due("bestSlot(2)", x.bestSlot(2), INVALID_ARGUMENT);
        due("an empty rack", x.bestSlot(0), 0);
        for (int slot = 0; slot < 10; slot++) {
            x.lay(slot, slot == 6 ? 1 : 0, 12);
        }
        due("no slot", x.bestSlot(0), NOT_FOUND);
        due("no slot", x.bestSlot(1), NOT_FOUND);
        x.season(0, 5, 6);
        x.clear(8);
        due("the empty one, in season or not", x.bestSlot(0), 8);
        x.lay(8, 0, 11);
        due("one with 11 of its own cards", x.bestSlot(0), 8);
        due("not for another verse", x.bestSlot(1), NOT_FOUND);
        x.giveBack();
        due("without cards it holds its verse, too", x.bestSlot(1), NOT_FOUND);
        due("the lowest", x.bestSlot(0), 0);
    }

    public static void bestSlotSums() {
        begin("18 bestSlot, sums");
        CardRacks x = stocked(200, 0, 1, 2);
        x.lay(4, 0, 12);
        x.lay(5, 1, 12);
        x.lay(7, 2, 12);
        x.sellTwo(0, 1);
        x.sellTwo(0, 1);
        x.sellTwo(0, 2);
        due("beside 1: 0 and 6, 6 beside 2, too", x.bestSlot(0), 6);
        due("beside 0: 3 and 9", x.bestSlot(1), 3);
        due("beside 0: 3 and 9", x.bestSlot(2), 3);
        x.lay(3, 2, 1);
        due("but that is taken", x.bestSlot(1), 9);
        due("its own, beside 0", x.bestSlot(2), 3);
        x.sellTwo(1, 1);
        x.sellTwo(1, 1);
        x.sellTwo(1, 1);
        due("beside itself", x.bestSlot(1), 0);
        x.sellTwo(0, 2);
        x.sellTwo(0, 2);
        x.sellTwo(0, 2);
        x.sell(2);
        due("beside 2 twice", x.bestSlot(0), 2);
        due("no cards in 3", x.slotOf(3, 1), 0);
        x.clear(7);
        due("6 beside 1 alone, 2 beside 2 without cards", x.bestSlot(0), 2);
        x.clear(3);
        due("beside 1", x.bestSlot(0), 0);
        x.clear(5);
        x.lay(0, 1, 12);
        x.lay(1, 0, 12);
        due("beside 1 in the slot 0", x.bestSlot(0), 5);
    }

    // ---- promise 19

    public static void partner() {
        begin("19 partner");
        CardRacks x = stocked(50, 0, 1, 2, 3);
        due("partner(-1)", x.partner(-1), INVALID_ARGUMENT);
        due("partner(4)", x.partner(4), INVALID_ARGUMENT);
        for (int i = 0; i < 4; i++) {
            x.lay(i, i, 12);
        }
        due("none", x.partner(0), NOT_FOUND);
        x.sellTwo(0, 0);
        x.sellTwo(0, 0);
        x.sellTwo(0, 0);
        due("another one", x.partner(0), NOT_FOUND);
        x.sellTwo(0, 3);
        due("partner(0)", x.partner(0), 3);
        due("partner(3)", x.partner(3), 0);
        x.sellTwo(2, 0);
        due("of several the lowest", x.partner(0), 2);
        x.sellTwo(3, 0);
        due("most often", x.partner(0), 3);
        due("none", x.partner(1), NOT_FOUND);
    }

    // ---- promise 20

    private static void lastsDue(CardRacks x, int verse, int cards, int days, int wanted) {
        int bits = Float.floatToIntBits((float) cards * (float) days / (float) wanted);
        due("lasts(" + verse + ") of " + cards + " * " + days + " / " + wanted, x.lasts(verse), bits);
    }

    public static void lasts() {
        begin("20 lasts");
        CardRacks x = atOnce();
        due("lasts(0)", x.lasts(0), INVALID_ARGUMENT);
        x.verse(0, 10, 0);
        x.verse(0, 10, 0);
        due("lasts(-1)", x.lasts(-1), INVALID_ARGUMENT);
        due("lasts(2)", x.lasts(2), INVALID_ARGUMENT);
        due("nobody wanted it", x.lasts(0), NOT_FOUND);
        x.sell(0);
        due("no cards", x.lasts(0), 0);
        x.order(0, 40);
        lastsDue(x, 0, 40, 1, 1);
        x.lay(0, 0, 12);
        x.lay(5, 0, 12);
        x.set(0, 30);
        x.order(0, 300);
        lastsDue(x, 0, 340, 1, 1);
        x.sell(0);
        x.sell(0);
        lastsDue(x, 0, 338, 1, 3);
        x.pass(1);
        lastsDue(x, 0, 338, 1, 3);
        x.pass(1);
        lastsDue(x, 0, 338, 2, 3);
        x.sell(1);
        lastsDue(x, 1, 0, 2, 1);
        due("lasts(1) is zero", x.lasts(1), 0);
        lastsDue(x, 0, 337, 2, 3);
        CardRacks y = atOnce();
        y.verse(0, 1, 0);
        y.order(0, 1);
        for (int i = 0; i < 97; i++) {
            y.sell(0);
        }
        lastsDue(y, 0, 1, 1, 97);
        for (int i = 0; i < 10; i++) {
            y.order(0, 999);
        }
        for (int i = 0; i < 10; i++) {
            y.lay(i, 0, 12);
            y.order(0, 12);
        }
        y.order(0, 8);
        for (int i = 0; i < 20; i++) {
            y.pass(99);
        }
        y.pass(18);
        lastsDue(y, 0, 10119, 1998, 97);
        y.pass(1);
        lastsDue(y, 0, 10119, 1999, 97);
        int roundedOnce = Float.floatToIntBits((float) (10119.0 * 1999.0 / 97.0));
        due("the product is rounded by itself", y.lasts(0) == roundedOnce ? 1 : 0, 0);
    }

    // ---- promise 21

    public static void count() {
        begin("21 count");
        CardRacks x = atOnce();
        for (int what : new int[] {-1, 12, 13, 19, 22, Integer.MAX_VALUE, Integer.MIN_VALUE}) {
            due("count(" + what + ")", x.count(what), INVALID_ARGUMENT);
        }
        x.verse(0, 9, 5);
        x.verse(1, 30, 11);
        x.verse(0, 50, 1);
        x.order(0, 10);
        x.order(1, 20);
        x.order(2, 3);
        x.set(0, 7);
        x.order(1, 6);
        x.order(1, 4);
        x.lay(0, 0, 2);
        x.lay(9, 1, 3);
        x.lay(5, 2, 1);
        x.sell(1);
        x.sellTwo(0, 0);
        x.sellTwo(0, 1);
        x.sell(0);
        x.pass(2);
        x.season(1, 300, 301);
        x.giveBack();
        x.type('d');
        x.type('1');
        due("verses", x.count(0), 3);
        due("the day", x.count(1), 2);
        due("in the rack", x.count(2), 0);
        due("in the back room", x.count(3), 8 + 0 + 2);
        due("orders", x.count(4), 2);
        due("sold", x.count(5), 5);
        due("lost", x.count(6), 1);
        due("returned", x.count(7), 18);
        int paid = 10 * 5 + 20 * 11 + 3 + 10 * 11;
        int earned = 30 + 9 + 9 + 50 + 30 + 18 * 5;
        due("account", x.count(8), 100000000 + earned - paid);
        due("pairs", x.count(9), 2);
        due("history", x.count(10), 4);
        due("text", x.count(11), 2);
        due("setting 0", x.count(20), 7);
        due("setting 1", x.count(21), 50);
        x.lay(3, 0, 4);
        x.lay(4, 0, 1);
        due("in the rack", x.count(2), 5);
        due("in the back room", x.count(3), 5);
        x.sellTwo(2, 0);
        due("the same pair once more", x.count(9), 2);
        x.clear(5);
        x.lay(0, 2, 1);
        x.sellTwo(2, 0);
        due("an unlike pair", x.count(9), 3);
    }

    // ---- promise 22

    public static void undo() {
        begin("22 undo");
        CardRacks x = new CardRacks();
        due("undo()", x.undo(), NOT_POSSIBLE);
        x.verse(0, 1, 0);
        due("history", x.count(10), 1);
        due("undo()", x.undo(), 0);
        due("no verse", x.count(0), 0);
        due("undo()", x.undo(), NOT_POSSIBLE);
        for (int i = 0; i < 6; i++) {
            x.verse(0, i + 1, 0);
        }
        due("history", x.count(10), 4);
        due("undo()", x.undo(), 3);
        due("verses", x.count(0), 5);
        due("verse(4, 50, 0)", x.verse(4, 50, 0), 5);
        due("history", x.count(10), 4);
        due("undo()", x.undo(), 3);
        due("undo()", x.undo(), 2);
        due("verses", x.count(0), 4);
        due("undo()", x.undo(), 1);
        due("undo()", x.undo(), 0);
        due("verses", x.count(0), 2);
        due("its price", x.verseOf(1, 1), 2);
        due("undo()", x.undo(), NOT_POSSIBLE);
        due("verses", x.count(0), 2);
        x.type('d');
        x.pass(3);
        x.clearText();
        x.type('s');
        x.type('0');
        due("undo()", x.undo(), 0);
        due("the text is not restored", x.count(11), 2);
        due("the day is", x.count(1), 0);
        x.sell(0);
        due("a lost sale is a change", x.count(10), 1);
        x.set(0, 3);
        due("a setting as it was is a change", x.count(10), 2);
        x.season(0, 0, 359);
        due("a season as it was is a change", x.count(10), 3);
    }

    // ---- promise 23

    public static void type() {
        begin("23 type");
        CardRacks x = new CardRacks();
        due("type(31)", x.type(31), INVALID_ARGUMENT);
        due("type(127)", x.type(127), INVALID_ARGUMENT);
        due("type(-1)", x.type(-1), INVALID_ARGUMENT);
        due("type(65536 + 100)", x.type(65636), INVALID_ARGUMENT);
        due("type(32)", x.type(32), 1);
        due("type(126)", x.type(126), 2);
        for (int i = 3; i <= 60; i++) {
            due("type " + i, x.type('d'), i);
        }
        due("a 61st", x.type('d'), LIMIT_REACHED);
        due("a wrong 61st", x.type(127), INVALID_ARGUMENT);
        due("length", x.count(11), 60);
        due("no change", x.count(10), 0);
    }

    // ---- promise 24

    public static void clearText() {
        begin("24 clearText");
        CardRacks x = new CardRacks();
        due("clearText()", x.clearText(), 0);
        write(x, "d1;x");
        due("clearText()", x.clearText(), 4);
        due("length", x.count(11), 0);
        due("fault(0)", x.fault(0), NOT_FOUND);
        due("type", x.type('d'), 1);
        due("no change", x.count(10), 0);
        due("the old text is gone", x.fault(2), 1);
    }

    // ---- promise 25

    public static void faultOfForm() {
        begin("25 fault, reason 1");
        CardRacks x = stocked(9, 0);
        due("fault(-1)", x.fault(-1), INVALID_ARGUMENT);
        due("fault(3)", x.fault(3), INVALID_ARGUMENT);
        due("fault(0) of an empty text", x.fault(0), NOT_FOUND);
        write(x, "x");
        due("fault(3)", x.fault(3), INVALID_ARGUMENT);
        String[] broken = {"x", " s0;", ";", "1", "V0,1,1;", "s", "s;", "s0", "s0,", "s00", "s000", "s0000;",
            "s 0;", "s-1;", "s0 ;", "d", "dd", "d1", "d1,1;", "d999", "o", "o,", "o0", "o0;", "o0,", "o0,;",
            "o0,1", "o0,1,", "o0000,1;", "o0,1111;", "l0,0", "l0,0;", "l0,0,", "l0,0,1", "l0,0,1,", "l,0,1;",
            "v0,1,", "v0,1,1", "v0,1;", "v0;", "v0,1,1.", "v0,1,0001;", "s/;", "s:;", "s0:", "s0/"};
        int[] causes = {0, 0, 0, 0, 0, 1, 1, 2, 2, 3, 4, 4,
            1, 1, 2, 1, 1, 2, 2, 4, 1, 1, 2, 2, 3, 3,
            4, 4, 4, 6, 4, 4, 5, 6, 6, 1,
            5, 6, 4, 2, 6, 8, 1, 1, 2, 2};
        for (int i = 0; i < broken.length; i++) {
            CardRacks y = stocked(9, 0);
            faultDue(y, broken[i], 0, 1, causes[i]);
            faultDue(y, "d1;" + broken[i], 3, 1, causes[i]);
            faultDue(y, broken[i] + "s9;", 0, 1, causes[i]);
        }
        noFault(x, "s0;s00;s000;d001;o0,001;l9,00,01;v00,001,000;");
        faultDue(x, "s0;d1;s0;?", 9, 1, 0);
        faultDue(x, "s9;x", 0, 2, INVALID_ARGUMENT);
        faultDue(x, "x;s9;", 0, 1, 0);
    }

    public static void faultOfCall() {
        begin("25 fault, reason 2");
        CardRacks x = stocked(9, 0, 0);
        faultDue(x, "s2;", 0, 2, INVALID_ARGUMENT);
        faultDue(x, "s1;s2;", 3, 2, INVALID_ARGUMENT);
        faultDue(x, "d0;", 0, 2, INVALID_ARGUMENT);
        faultDue(x, "d100;", 0, 2, INVALID_ARGUMENT);
        faultDue(x, "o0,0;", 0, 2, INVALID_ARGUMENT);
        faultDue(x, "o2,1;", 0, 2, INVALID_ARGUMENT);
        faultDue(x, "v5,1,1;", 0, 2, INVALID_ARGUMENT);
        faultDue(x, "v0,0,1;", 0, 2, INVALID_ARGUMENT);
        faultDue(x, "v0,1,100;", 0, 2, INVALID_ARGUMENT);
        faultDue(x, "l10,0,1;", 0, 2, INVALID_ARGUMENT);
        faultDue(x, "l0,0,10;", 0, 2, NOT_POSSIBLE);
        faultDue(x, "l0,0,9;l0,1,1;", 7, 2, NOT_POSSIBLE);
        faultDue(x, "l0,0,9;o0,9;l0,0,4;", 12, 2, LIMIT_REACHED);
        faultDue(x, "l0,0,9;s0;s2;s0;x", 10, 2, INVALID_ARGUMENT);
        noFault(x, "l0,0,8;s0;l0,0,1;s0;s0;s0;s0;s0;s0;s0;s0;l0,1,9;");
        noFault(x, "v0,1,1;s2;");
        noFault(x, "v0,1,1;o2,12;l9,2,12;");
        for (int i = 0; i < 19; i++) {
            x.pass(99);
        }
        faultDue(x, "d99;d20;", 4, 2, LIMIT_REACHED);
        noFault(x, "d99;d19;");
        due("nothing is done", x.count(1), 1881);
        x.pass(40);
        write(x, "d99;d19;");
        due("the same text later", x.fault(0), 0);
        due("its reason", x.fault(1), 2);
    }

    // ---- promise 26

    public static void play() {
        begin("26 play");
        CardRacks x = new CardRacks();
        due("play() without orders", x.play(), 0);
        due("it is a change", x.count(10), 1);
        write(x, "v2,9,3;o0,7;d3;l6,0,7;s0;");
        due("play()", x.play(), 5);
        due("one change", x.count(10), 2);
        due("the text stays", x.count(11), 25);
        due("a verse", x.count(0), 1);
        due("its occasion", x.verseOf(0, 0), 2);
        due("its price", x.verseOf(0, 1), 9);
        due("its cost", x.verseOf(0, 2), 3);
        due("the day", x.count(1), 3);
        due("back room", x.verseOf(0, 3), 0);
        due("its slot", x.slotOf(6, 1), 6);
        due("sold", x.count(5), 1);
        due("account", x.count(8), 100000000 - 21 + 9);
        due("once more it is not possible", x.fault(0), 15);
        due("play()", x.play(), NOT_POSSIBLE);
        due("nothing is done", x.count(0), 1);
        due("undo()", x.undo(), 1);
        due("no verse", x.count(0), 0);
        due("the day", x.count(1), 0);
        due("the text stays", x.count(11), 25);
        due("play()", x.play(), 5);
        write(x, "s0;s0;s0;s0;s0;s0;s0;s0;s0;s0;s0;s0;s0;s0;s0;s0;s0;s0;s0;s0;");
        due("60 characters", x.count(11), 60);
        due("play() of 20", x.play(), 20);
        due("wanted", x.verseOf(0, 9), 21);
        due("lost", x.count(6), 14);
        due("history", x.count(10), 3);
        write(x, "d1;d");
        due("play() of a broken one", x.play(), NOT_POSSIBLE);
    }

    public static void playEach() {
        begin("26 play, each order as its call");
        String[] texts = {"v3,44,55;", "o1,123;", "l4,2,7;", "s1;", "d12;", "v0,7,8;"};
        String[] calls = {"verse(3, 44, 55)", "order(1, 123)", "lay(4, 2, 7)", "sell(1)", "pass(12)", "verse(0, 7, 8)"};
        Racks played = Racks.stocked(30, 0, 1, 1);
        Racks called = Racks.stocked(30, 0, 1, 1);
        for (int i = 0; i < texts.length; i++) {
            played.does("clearText()").types(texts[i]).due("play()", 1);
            called.does(calls[i]);
            due("all behind " + calls[i] + " is alike", played.state().equals(called.state()) ? 1 : 0, 1);
        }
    }
}
