/** The boundary cases of 'Texts' in 'Terms' and of promises 23 to 26, a test for each sentence that names one. */
public final class TextEdgeTest extends Checks {
    /** Orders of each kind that are possible for busy(), with numbers of 1, 2 and 3 digits. */
    private static final String[] ORDERS = {"v4,99,0;", "v04,01,099;", "v000,001,000;", "o1,1;", "o01,99;",
            "o001,999;",
        "l9,2,1;", "l09,02,12;", "l009,002,001;", "s0;", "s01;", "s002;", "d1;", "d01;", "d099;"};
    /** Characters that are next to a digit, a "," or a ";" or to a letter of an order, and the outermost ones. */
    private static final String STRANGE = " +-./:<ADLOSVcekmnprtuw~";

    public static void main(String[] args) throws IllegalAccessException {
        runAll(TextEdgeTest.class);
    }

    /** Three verses with cards behind the rack, a slot of the first, and orders that come at once. */
    private static Racks busy() {
        return Racks.stocked(30, 0, 1, 2).does("lay(0, 0, 2)");
    }

    private static void faultDue(Racks x, String text, int position, int reason, int cause) {
        x.does("clearText()").types(text);
        due("fault(0) of " + text, x.ask("fault(0)"), position);
        due("fault(1) of " + text, x.ask("fault(1)"), reason);
        due("fault(2) of " + text, x.ask("fault(2)"), cause);
        due("play() of " + text, x.ask("play()"), NOT_POSSIBLE);
    }

    private static void noFault(Racks x, String text, int orders) {
        x.does("clearText()").types(text);
        due("fault(0) of " + text, x.ask("fault(0)"), NOT_FOUND);
        due("fault(1) of " + text, x.ask("fault(1)"), NOT_FOUND);
        due("fault(2) of " + text, x.ask("fault(2)"), NOT_FOUND);
        due("play() of " + text, x.ask("play()"), orders);
    }

    public static void emptyAtFirst() {
        begin("Terms: There is a text of at most 60 characters, initially empty");
        Racks x = new Racks().due("count(11)", 0).due("fault(0)", NOT_FOUND).due("clearText()", 0).due("type(120)", 1);
        x.types("x".repeat(59)).due("count(11)", 60).refused("type(120)", LIMIT_REACHED);
    }

    // ---- the form of an order

    public static void ordersOfTheForm() {
        begin("Terms: numbers of 1 to 3 digits, 0 ahead allowed");
        for (String order : ORDERS) {
            noFault(busy(), order, 1);
            noFault(busy(), "d1;" + order + "d1;", 3);
        }
    }

    public static void zeroAheadIsTheSameNumber() {
        begin("Terms: numbers of 1 to 3 digits, 0 ahead allowed (and of no weight)");
        Racks x = busy().types("v004,012,003;d010;o001,007;");
        x.does("play()").due("verseOf(3, 0)", 4).due("verseOf(3, 1)", 12).due("verseOf(3, 2)", 3).due("count(1)", 10);
        x.due("verseOf(1, 3)", 37);
    }

    public static void fourDigits() {
        begin("Terms: numbers of 1 to 3 digits (not of 4: there it breaks off)");
        String[] orders = {"s0000;", "d0001;", "o0001,1;", "o1,0001;", "l0009,0,1;", "l9,0000,1;", "l9,0,0001;",
            "v0000,1,1;", "v0,0001,1;", "v0,1,0001;", "d1000;", "d9999;"};
        int[] causes = {4, 4, 4, 6, 4, 6, 8, 4, 6, 8, 4, 4};
        for (int i = 0; i < orders.length; i++) {
            faultDue(busy(), orders[i], 0, 1, causes[i]);
        }
    }

    public static void noDigits() {
        begin("Terms: numbers of 1 to 3 digits (not of none)");
        String[] orders = {"s;", "d;", "o;", "o,1;", "o0,;", "l,0,1;", "l9,,1;", "l9,0,;", "v,1,1;", "v0,,1;",
                "v0,1,;"};
        int[] causes = {1, 1, 1, 1, 3, 1, 3, 5, 1, 3, 5};
        for (int i = 0; i < orders.length; i++) {
            faultDue(busy(), orders[i], 0, 1, causes[i]);
        }
    }

    public static void tooFewOrTooManyNumbers() {
        begin("Terms: \"o\" a verse, \",\", an amount (an order), .. (each with as many numbers as are told)");
        String[] orders = {"s0,0;", "d1,1;", "o0;", "o0,1,1;", "l9;", "l9,0;", "l9,0,1,1;", "v0;", "v0,1;",
                "v0,1,1,1;"};
        int[] causes = {2, 2, 2, 4, 2, 4, 6, 2, 4, 6};
        for (int i = 0; i < orders.length; i++) {
            faultDue(busy(), orders[i], 0, 1, causes[i]);
        }
    }

    public static void otherLetters() {
        begin("Terms: \"v\" an occasion, .. \"d\" days (no other letter begins an order)");
        for (int sign = 32; sign <= 126; sign++) {
            boolean begins = "volsd".indexOf(sign) >= 0;
            faultDue(busy(), (char) sign + "x", 0, 1, begins ? 1 : 0);
        }
    }

    public static void strangeCharacterInAnOrder() {
        begin("Terms: with the reason 1 at which character of the order, from 0, it breaks off");
        for (String order : ORDERS) {
            for (int place = 0; place < order.length(); place++) {
                for (int i = 0; i < STRANGE.length(); i++) {
                    String broken = order.substring(0, place) + STRANGE.charAt(i) + order.substring(place + 1);
                    faultDue(busy(), broken, 0, 1, place);
                    faultDue(busy(), "d1;d1;" + broken + "d1;", 6, 1, place);
                }
            }
        }
    }

    public static void characterBesideTheDigits() {
        begin("Terms: numbers of 1 to 3 digits (0 to 9, and not / or :)");
        for (char sign = '0'; sign <= '9'; sign++) {
            noFault(busy(), "v0,1" + sign + ",0;", 1);
        }
        faultDue(busy(), "d/;", 0, 1, 1);
        faultDue(busy(), "d:;", 0, 1, 1);
        faultDue(busy(), "d1/;", 0, 1, 2);
        faultDue(busy(), "d1:;", 0, 1, 2);
    }

    public static void orderThatTheTextEndsTooEarly() {
        begin("Terms: (of one that the text ends too early it is its length)");
        for (String order : ORDERS) {
            for (int length = 1; length < order.length(); length++) {
                String cut = order.substring(0, length);
                faultDue(busy(), cut, 0, 1, length);
                faultDue(busy(), "s0;" + cut, 3, 1, length);
            }
        }
    }

    public static void withoutItsSemicolon() {
        begin("Terms: its reason is 1 if it is not of this form, its \";\" included");
        faultDue(busy(), "d1", 0, 1, 2);
        faultDue(busy(), "d1;d1", 3, 1, 2);
        faultDue(busy(), "d1,", 0, 1, 2);
        faultDue(busy(), "d1 ;", 0, 1, 2);
        faultDue(busy(), "d1d1;", 0, 1, 2);
        faultDue(busy(), "d1;;", 3, 1, 0);
        faultDue(busy(), ";", 0, 1, 0);
        noFault(busy(), "d1;", 1);
    }

    public static void formAheadOfTheCall() {
        begin("Terms: its reason is 1 if it is not of this form, .. and otherwise 2");
        faultDue(busy(), "s9", 0, 1, 2);
        faultDue(busy(), "s9;", 0, 2, INVALID_ARGUMENT);
        faultDue(busy(), "d000", 0, 1, 4);
        faultDue(busy(), "d000;", 0, 2, INVALID_ARGUMENT);
        faultDue(busy(), "l99,0,1.", 0, 1, 7);
        faultDue(busy(), "l99,0,1;", 0, 2, INVALID_ARGUMENT);
    }

    // ---- which order is at fault

    public static void firstOrderThatIsNotPossible() {
        begin("Terms: the position, from 0, of the first character of the first order that is not possible");
        faultDue(busy(), "s9;x", 0, 2, INVALID_ARGUMENT);
        faultDue(busy(), "x;s9;", 0, 1, 0);
        faultDue(busy(), "s0;s9;x", 3, 2, INVALID_ARGUMENT);
        faultDue(busy(), "s0;x;s9;", 3, 1, 0);
        faultDue(busy(), "s00;s000;s9;s8;", 9, 2, INVALID_ARGUMENT);
        faultDue(busy(), "l1,1,12;s0;d100;s", 11, 2, INVALID_ARGUMENT);
    }

    public static void lastCharacterOfAFullText() {
        begin("Terms: There is a text of at most 60 characters (the last order ends with them, or not)");
        noFault(busy(), "d1;".repeat(20), 20);
        noFault(busy(), "d1;".repeat(17) + "v0,1,001;", 18);
        faultDue(busy(), "d1;".repeat(19) + "d01", 57, 1, 3);
        faultDue(busy(), "d1;".repeat(19) + "d1x", 57, 1, 2);
        faultDue(busy(), "d1;".repeat(19) + "d0;", 57, 2, INVALID_ARGUMENT);
        faultDue(busy(), "d1;".repeat(17) + "v0,1,0001", 51, 1, 8);
        faultDue(busy(), "d01;".repeat(14) + "d1;d", 59, 1, 1);
        faultDue(busy(), "d01;".repeat(14) + "d1;x", 59, 1, 0);
    }

    public static void whenThoseAheadAreDone() {
        begin("Terms: and otherwise 2, when those ahead of it are done");
        faultDue(new Racks(), "s0;", 0, 2, INVALID_ARGUMENT);
        noFault(new Racks(), "v0,1,1;s0;", 2);
        faultDue(new Racks(), "v0,1,1;s1;", 7, 2, INVALID_ARGUMENT);
        faultDue(new Racks().does("verse(0, 1, 1)"), "o0,9;l0,0,9;", 5, 2, NOT_POSSIBLE);
        noFault(new Racks().does("verse(0, 1, 1)"), "o0,9;d3;l0,0,9;", 3);
        faultDue(new Racks().does("verse(0, 1, 1)"), "o0,9;d2;l0,0,9;", 8, 2, NOT_POSSIBLE);
        faultDue(busy(), "s0;s0;l0,1,1;l0,0,1;", 13, 2, NOT_POSSIBLE);
        faultDue(busy(), "s0;l0,1,1;", 3, 2, NOT_POSSIBLE);
        noFault(busy(), "s0;s0;l0,1,1;", 3);
    }

    public static void causeIsTheErrorOfTheCall() {
        begin("Terms: and with the reason 2 the error code that the call returns for it");
        faultDue(busy(), "v5,1,1;", 0, 2, INVALID_ARGUMENT);
        faultDue(busy(), "v0,0,1;", 0, 2, INVALID_ARGUMENT);
        faultDue(busy(), "v0,100,1;", 0, 2, INVALID_ARGUMENT);
        faultDue(busy(), "v0,1,100;", 0, 2, INVALID_ARGUMENT);
        faultDue(busy().repeats(9, "verse(0, 1, 1)"), "v0,1,1;", 0, 2, LIMIT_REACHED);
        faultDue(busy(), "o3,1;", 0, 2, INVALID_ARGUMENT);
        faultDue(busy(), "o0,0;", 0, 2, INVALID_ARGUMENT);
        faultDue(busy().does("set(0, 1)").repeats(8, "order(0, 1)"), "o0,1;", 0, 2, LIMIT_REACHED);
        faultDue(busy().repeats(9, "order(0, 999)"), "o0,999;o0,1;", 0, 2, LIMIT_REACHED);
        faultDue(busy(), "l10,0,1;", 0, 2, INVALID_ARGUMENT);
        faultDue(busy(), "l0,0,13;", 0, 2, INVALID_ARGUMENT);
        faultDue(busy(), "l0,1,1;", 0, 2, NOT_POSSIBLE);
        faultDue(busy(), "l0,0,11;", 0, 2, LIMIT_REACHED);
        faultDue(busy(), "s3;", 0, 2, INVALID_ARGUMENT);
        faultDue(busy(), "d100;", 0, 2, INVALID_ARGUMENT);
        faultDue(busy().goesToDay(1999), "d1;", 0, 2, LIMIT_REACHED);
    }

    public static void lastNumbersThatArePossible() {
        begin("Terms: the first order that is not possible (the last values are)");
        noFault(busy(), "v4,99,99;o3,999;l9,3,12;s3;d99;", 5);
        noFault(busy(), "v0,1,0;o0,1;l0,0,1;s0;d1;", 5);
        noFault(busy().goesToDay(1900), "d99;", 1);
        faultDue(busy().goesToDay(1900), "d99;d1;", 4, 2, LIMIT_REACHED);
        noFault(busy(), "l0,0,10;", 1);
        noFault(busy().repeats(8, "verse(0, 1, 1)"), "v0,1,1;", 1);
        faultDue(busy().repeats(8, "verse(0, 1, 1)"), "v0,1,1;v0,1,1;", 7, 2, LIMIT_REACHED);
        noFault(busy().does("set(0, 1)").repeats(7, "order(0, 1)"), "o0,1;d1;o0,1;", 3);
        faultDue(busy().does("set(0, 1)").repeats(7, "order(0, 1)"), "o0,1;o0,1;", 5, 2, LIMIT_REACHED);
    }

    public static void lostSalesArePossible() {
        begin("Terms: \"s\" a verse (somebody wants it)");
        noFault(new Racks().does("verse(0, 1, 1)", "season(0, 1, 1)"), "s0;s0;", 2);
        Racks x = busy().types("s1;");
        x.due("play()", 1).due("verseOf(1, 8)", 1).due("count(6)", 1);
    }

    // ---- promise 23: type

    public static void typeCharacters() {
        begin("Promise 23: character: 32 to 126");
        Racks x = new Racks().refused("type(31)", INVALID_ARGUMENT).refused("type(127)", INVALID_ARGUMENT);
        x.refused("type(0)", INVALID_ARGUMENT).refused("type(-1)", INVALID_ARGUMENT)
                .refused("type(65636)", INVALID_ARGUMENT);
        x.due("type(32)", 1).due("type(126)", 2);
        for (int sign = 32; sign <= 126; sign++) {
            new Racks().due("type(" + sign + ")", 1);
        }
    }

    public static void typeUpToTheLast() {
        begin("Promise 23: LIMIT_REACHED if it has 60 characters");
        Racks x = new Racks();
        for (int length = 1; length <= 60; length++) {
            x.due("type(100)", length);
        }
        x.refused("type(100)", LIMIT_REACHED).refused("type(126)", LIMIT_REACHED).due("count(11)", 60);
        x.does("clearText()").due("type(100)", 1);
    }

    public static void typeAppends() {
        begin("Promise 23: Appends a character to the text");
        Racks x = busy();
        int[] causes = {1, 2, 3, 4, 5, 6, 7};
        String order = "l9,2,12;";
        for (int i = 0; i < causes.length; i++) {
            x.does("type(" + (int) order.charAt(i) + ")").due("fault(2)", causes[i]).due("fault(0)", 0);
        }
        x.does("type(59)").due("fault(2)", NOT_FOUND).does("type(59)").due("fault(0)", 8).due("fault(2)", 0);
    }

    // ---- promise 24: clearText

    public static void clearTextOfAnEmptyOne() {
        begin("Promise 24: Returns the length it had (0, if it was empty)");
        Racks x = new Racks().due("clearText()", 0).due("clearText()", 0).due("count(11)", 0);
        x.types("d1;").due("clearText()", 3).due("clearText()", 0).due("fault(1)", NOT_FOUND).due("play()", 0);
    }

    public static void clearTextOfAFullOne() {
        begin("Promise 24: Empties the text (also the longest one)");
        Racks x = new Racks().types("x".repeat(60)).due("clearText()", 60).due("count(11)", 0)
                .due("fault(0)", NOT_FOUND);
        x.types("d1").due("fault(2)", 2).types(";").due("fault(2)", NOT_FOUND).due("play()", 1).due("count(1)", 1);
    }

    // ---- promise 25: fault

    public static void faultWhat() {
        begin("Promise 25: INVALID_ARGUMENT if what is out of range (0 to 2)");
        new Racks().refused("fault(-1)", INVALID_ARGUMENT).refused("fault(3)", INVALID_ARGUMENT).types("d1;xyz")
                .refused("fault(-1)", INVALID_ARGUMENT).refused("fault(3)", INVALID_ARGUMENT)
                .due("fault(0)", 3).due("fault(1)", 1).due("fault(2)", 0);
    }

    public static void faultOfAnEmptyText() {
        begin("Promise 25: NOT_FOUND if the text has no fault (also if it is empty)");
        Racks x = new Racks().refused("fault(0)", NOT_FOUND).refused("fault(1)", NOT_FOUND)
                .refused("fault(2)", NOT_FOUND);
        x.types("d1;").refused("fault(0)", NOT_FOUND).refused("fault(1)", NOT_FOUND).refused("fault(2)", NOT_FOUND);
        x.types("x").due("fault(0)", 3).does("clearText()").refused("fault(0)", NOT_FOUND);
    }

    public static void faultOfThePresentState() {
        begin("Promise 25: Tells about the fault of the text (in the state of now)");
        Racks x = new Racks().types("s0;").due("fault(2)", INVALID_ARGUMENT).does("verse(0, 1, 1)")
                .due("fault(2)", NOT_FOUND);
        x.does("undo()").due("fault(1)", 2).does("clearText()").types("d50;").due("fault(1)", NOT_FOUND);
        x.goesToDay(1949).due("fault(1)", NOT_FOUND).goesToDay(1950).due("fault(2)", LIMIT_REACHED);
    }

    public static void faultDoesNothing() {
        begin("Promise 25: Tells about the fault of the text (and does none of its orders)");
        busy().types("d1;s0;o1,9;l9,2,1;x").isNoChange("fault(0)").due("count(1)", 0).due("fault(0)", 18);
        busy().types("d1;s0;o1,9;l9,2,1;").due("fault(0)", NOT_FOUND).due("count(1)", 0).due("count(5)", 0)
                .due("count(10)", 4);
    }

    // ---- promise 26: play

    public static void playOfNoOrders() {
        begin("Promise 26: They are one change, also if there are none");
        Racks x = new Racks().due("play()", 0).due("count(10)", 1).due("play()", 0).due("count(10)", 2)
                .due("undo()", 1);
        x.due("undo()", 0).refused("undo()", NOT_POSSIBLE);
        x.repeats(5, "play()").due("count(10)", 4);
    }

    public static void playIsOneChange() {
        begin("Promise 26: They are one change");
        Racks x = new Racks().does("verse(0, 1, 1)").types("d1;".repeat(20)).due("play()", 20).due("count(10)", 2)
                .due("count(1)", 20);
        x.isOneChange("play()").due("undo()", 1).due("count(1)", 0).due("count(0)", 1);
        x.due("play()", 20).due("play()", 20).due("count(1)", 40);
    }

    public static void playLeavesTheText() {
        begin("Promise 26: Does all orders of the text, which stays");
        Racks x = new Racks().types("v0,9,9;s0;").due("play()", 2).due("count(11)", 10).due("play()", 2)
                .due("count(0)", 2);
        x.due("verseOf(0, 9)", 2).due("undo()", 1).due("count(11)", 10).due("count(0)", 1);
    }

    public static void playTellsHowMany() {
        begin("Promise 26: Returns how many there are in it");
        for (int orders = 0; orders <= 20; orders++) {
            new Racks().types("d1;".repeat(orders)).due("play()", orders).due("count(1)", orders);
        }
        new Racks().types("v0,1,1;".repeat(8)).due("play()", 8).due("count(0)", 8);
    }

    public static void playWithAFault() {
        begin("Promise 26: NOT_POSSIBLE if it has a fault");
        String[] texts = {"x", "d1", "d1;x", "s9;", "d1;s0;s9;", "s0;d99;o1,9;l0,1,1;", "d1;d1;d1;d", ";"};
        for (String text : texts) {
            busy().types(text).refused("play()", NOT_POSSIBLE);
        }
        new Racks().types("d1").refused("play()", NOT_POSSIBLE).types(";").due("play()", 1);
    }

    public static void playEachOrderAsItsCall() {
        begin("Promise 26: Does all orders of the text (each as its call)");
        Racks called = busy()
                .does("verse(4, 98, 97)", "order(3, 999)", "lay(9, 3, 12)", "sell(0)", "sell(3)", "pass(45)");
        Racks played = busy().types("v4,98,97;o3,999;l9,3,12;s0;s3;d45;").does("play()");
        due("all is as if each order had been called", played.state().equals(called.state()) ? 1 : 0, 1);
    }
}
