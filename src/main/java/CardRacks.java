/**
 * Racks of greeting cards: verses, slots, seasons, sales, orders, returns,
 * and texts of orders. DOC.md says what each call promises.
 */
public final class CardRacks {
    public static final int INVALID_ARGUMENT = -1000001;
    public static final int NOT_POSSIBLE = -1000002;
    public static final int LIMIT_REACHED = -1000003;
    public static final int NOT_FOUND = -1000004;

    private static final int OCCASIONS = 5;
    private static final int MOST_VERSES = 12;
    private static final int HIGHEST_PRICE = 99;
    private static final int HIGHEST_COST = 99;
    private static final int MOST_STOCK = 9999;
    private static final int SLOTS = 10;
    // The slots beside each slot, as sets: 0 to 4 are the row above, 5 to 9 that below.
    private static final int[] BESIDE = {34, 69, 138, 276, 520, 65, 162, 324, 648, 272};
    private static final int MOST_CARDS = 12;
    private static final int YEAR = 360;
    private static final int LAST_DAY = 1999;
    private static final int MOST_DAYS = 99;
    private static final int MOST_ORDERS = 8;
    private static final int MOST_ORDERED = 999;
    private static final int LONGEST_DELAY = 30;
    private static final int MOST_PERCENT = 100;
    private static final int MOST_STATES = 4;
    private static final int ACCOUNT_BASE = 100000000;
    private static final int SALE_LOST = 100;
    private static final int NONE = -1;

    private static final int FIRST_SIGN = 32;
    private static final int LAST_SIGN = 126;
    private static final int MOST_SIGNS = 60;
    private static final int MOST_DIGITS = 3;
    private static final int MOST_NUMBERS = 3;
    private static final int NO_FAULT = 0;
    private static final int FAULT_OF_FORM = 1;
    private static final int FAULT_OF_CALL = 2;

    private static final int FLOAT_BIAS = 127;
    private static final int FLOAT_FRACTION_BITS = 23;
    private static final int FLOAT_FRACTIONS = 8388608;
    private static final int FLOAT_MOST_STEPS = 200;

    // Six states are made once and only change places, so that no call makes one.
    private State now = new State();
    private State trial = new State();
    private State latest = new State();
    private State second = new State();
    private State third = new State();
    private State oldest = new State();
    private int states = 0;

    private final Text text = new Text();
    private final Rehearsal rehearsal = new Rehearsal();

    public CardRacks() {
    }

    // ---- verses, seasons, orders

    public int verse(int occasion, int price, int cost) {
        return settle(freshTrial().addVerse(occasion, price, cost));
    }

    public int season(int occasion, int first, int last) {
        return settle(freshTrial().changeSeason(occasion, first, last));
    }

    public int order(int verse, int amount) {
        return settle(freshTrial().placeOrder(verse, amount));
    }

    // ---- the rack

    public int lay(int slot, int verse, int amount) {
        return settle(freshTrial().layCards(slot, verse, amount));
    }

    public int clear(int slot) {
        return settle(freshTrial().clearSlot(slot));
    }

    // ---- sales

    public int sell(int verse) {
        return settle(freshTrial().sellOne(verse));
    }

    public int sellTwo(int one, int other) {
        return settle(freshTrial().sellBoth(one, other));
    }

    public int giveBack() {
        return settle(freshTrial().returnCards());
    }

    public int pass(int days) {
        return settle(freshTrial().passDays(days));
    }

    public int set(int what, int value) {
        return settle(freshTrial().changeSetting(what, value));
    }

    // ---- what there is

    public int verseOf(int verse, int what) {
        if (!now.verses.has(verse) || !isWithin(what, 0, 9)) {
            return INVALID_ARGUMENT;
        }
        return now.aboutVerse(verse, what);
    }

    public int slotOf(int slot, int what) {
        if (!isSlot(slot) || !isWithin(what, 0, 4)) {
            return INVALID_ARGUMENT;
        }
        return now.aboutSlot(slot, what);
    }

    public int orderOf(int index, int what) {
        if (index < 0 || !isWithin(what, 0, 2)) {
            return INVALID_ARGUMENT;
        }
        return now.aboutOrder(index, what);
    }

    public int occasionOf(int occasion, int what) {
        if (!isOccasion(occasion) || !isWithin(what, 0, 4)) {
            return INVALID_ARGUMENT;
        }
        return now.calendar.aboutOccasion(occasion, what);
    }

    public int together(int one, int other) {
        if (!now.verses.has(one) || !now.verses.has(other)) {
            return INVALID_ARGUMENT;
        }
        return now.pairs.times(one, other);
    }

    // ---- what would be

    public int would(int verse, int what) {
        if (!now.verses.has(verse) || !isWithin(what, 0, 1)) {
            return INVALID_ARGUMENT;
        }
        int slot = now.slotToSell(verse);
        if (!isSlot(slot)) {
            return NOT_FOUND;
        }
        return what == 0 ? now.rack.held[slot] : slot;
    }

    public int bestSlot(int verse) {
        if (!now.verses.has(verse)) {
            return INVALID_ARGUMENT;
        }
        int slot = now.slotToLay(verse);
        return slot == NONE ? NOT_FOUND : slot;
    }

    public int partner(int verse) {
        if (!now.verses.has(verse)) {
            return INVALID_ARGUMENT;
        }
        int most = now.pairs.mostWith(verse);
        return most == NONE ? NOT_FOUND : most;
    }

    public int lasts(int verse) {
        if (!now.verses.has(verse)) {
            return INVALID_ARGUMENT;
        }
        int wanted = now.verses.wanted[verse];
        if (wanted <= 0) {
            return NOT_FOUND;
        }
        float cards = (float) now.cardsInAll(verse);
        float days = (float) Math.max(1, now.calendar.day);
        return bitsOf(cards * days / (float) wanted);
    }

    public int count(int what) {
        switch (what) {
            case 0: return now.verses.size;
            case 1: return now.calendar.day;
            case 2: return sumOf(now.rack.cards);
            case 3: return sumOf(now.verses.stock);
            case 4: return now.deliveries.size;
            case 5: return sumOf(now.verses.sold);
            case 6: return sumOf(now.verses.lost);
            case 7: return now.returned;
            case 8: return now.account + ACCOUNT_BASE;
            case 9: return now.pairs.unlike();
            case 10: return states;
            case 11: return text.length;
            case 20: return now.delay;
            case 21: return now.percent;
            default: return INVALID_ARGUMENT;
        }
    }

    public int undo() {
        if (states == 0) {
            return NOT_POSSIBLE;
        }
        State left = now;
        now = latest;
        latest = second;
        second = third;
        third = oldest;
        oldest = left;
        states--;
        return states;
    }

    // ---- texts

    public int type(int character) {
        if (!isWithin(character, FIRST_SIGN, LAST_SIGN)) {
            return INVALID_ARGUMENT;
        }
        return text.append((char) character) ? text.length : LIMIT_REACHED;
    }

    public int clearText() {
        int length = text.length;
        text.length = 0;
        return length;
    }

    public int fault(int what) {
        if (!isWithin(what, 0, 2)) {
            return INVALID_ARGUMENT;
        }
        rehearsal.go(text, freshTrial());
        if (rehearsal.reason == NO_FAULT) {
            return NOT_FOUND;
        }
        switch (what) {
            case 0: return rehearsal.position;
            case 1: return rehearsal.reason;
            default: return rehearsal.cause;
        }
    }

    public int play() {
        rehearsal.go(text, freshTrial());
        return settle(rehearsal.reason == NO_FAULT ? rehearsal.done : NOT_POSSIBLE);
    }

    // ---- trial and history

    private State freshTrial() {
        trial.copyFrom(now);
        return trial;
    }

    /** Keeps the trial if its answer is no error: all answers of changes but errors are 0 or more. */
    private int settle(int answer) {
        if (answer >= 0) {
            keepTrial();
        }
        return answer;
    }

    /** The state that falls out of the history is used as the next trial. */
    private void keepTrial() {
        State dropped = oldest;
        oldest = third;
        third = second;
        second = latest;
        latest = now;
        now = trial;
        trial = dropped;
        states = Math.min(states + 1, MOST_STATES);
    }

    // ---- small helps

    private static boolean isWithin(int value, int least, int most) {
        return value >= least && value <= most;
    }

    private static boolean isSlot(int slot) {
        return isWithin(slot, 0, SLOTS - 1);
    }

    private static boolean isOccasion(int occasion) {
        return isWithin(occasion, 0, OCCASIONS - 1);
    }

    private static boolean areBeside(int slot, int other) {
        return (BESIDE[slot] >> other & 1) == 1;
    }

    private static int sumOf(int[] row) {
        int sum = 0;
        for (int value : row) {
            sum += value;
        }
        return sum;
    }

    private static void copyRow(int[] from, int[] to) {
        System.arraycopy(from, 0, to, 0, Math.min(from.length, to.length));
    }

    /** The library's way to a float's bits is not open here; halving and doubling lose nothing. */
    private static int bitsOf(float value) {
        if (!(value > 0f)) {
            return 0;
        }
        float rest = value;
        int exponent = FLOAT_BIAS;
        for (int i = 0; i < FLOAT_MOST_STEPS && rest >= 2f; i++) {
            rest = rest / 2f;
            exponent++;
        }
        for (int i = 0; i < FLOAT_MOST_STEPS && rest < 1f; i++) {
            rest = rest * 2f;
            exponent--;
        }
        int fraction = (int) ((rest - 1f) * (float) FLOAT_FRACTIONS);
        return (exponent << FLOAT_FRACTION_BITS) + fraction;
    }

    /** The day and the seasons. */
    private static final class Calendar {
        int day = 0;
        final int[] first = new int[OCCASIONS];
        final int[] last = new int[OCCASIONS];

        Calendar() {
            for (int occasion = 0; occasion < OCCASIONS; occasion++) {
                last[occasion] = YEAR - 1;
            }
        }

        void copyFrom(Calendar other) {
            day = other.day;
            copyRow(other.first, first);
            copyRow(other.last, last);
        }

        int dayOfYear() {
            return day % YEAR;
        }

        boolean isInSeason(int occasion) {
            boolean begun = dayOfYear() >= first[occasion];
            boolean notOver = dayOfYear() <= last[occasion];
            boolean withinYear = first[occasion] <= last[occasion];
            return withinYear ? begun && notOver : begun || notOver;
        }

        int daysUntil(int occasion) {
            return isInSeason(occasion) ? 0 : Math.floorMod(first[occasion] - dayOfYear(), YEAR);
        }

        int daysLeft(int occasion) {
            if (!isInSeason(occasion)) {
                return 0;
            }
            boolean wholeYear = Math.floorMod(last[occasion] + 1, YEAR) == first[occasion];
            return wholeYear ? YEAR : Math.floorMod(last[occasion] - dayOfYear(), YEAR) + 1;
        }

        int aboutOccasion(int occasion, int what) {
            switch (what) {
                case 0: return first[occasion];
                case 1: return last[occasion];
                case 2: return isInSeason(occasion) ? 1 : 0;
                case 3: return daysUntil(occasion);
                default: return daysLeft(occasion);
            }
        }
    }

    /** The verses, the back room and what became of each verse. */
    private static final class Verses {
        int size = 0;
        final int[] occasion = new int[MOST_VERSES];
        final int[] price = new int[MOST_VERSES];
        final int[] cost = new int[MOST_VERSES];
        final int[] stock = new int[MOST_VERSES];
        final int[] sold = new int[MOST_VERSES];
        final int[] instead = new int[MOST_VERSES];
        final int[] lost = new int[MOST_VERSES];
        final int[] wanted = new int[MOST_VERSES];

        void copyFrom(Verses other) {
            size = other.size;
            copyRow(other.occasion, occasion);
            copyRow(other.price, price);
            copyRow(other.cost, cost);
            copyRow(other.stock, stock);
            copyRow(other.sold, sold);
            copyRow(other.instead, instead);
            copyRow(other.lost, lost);
            copyRow(other.wanted, wanted);
        }

        boolean has(int verse) {
            return verse >= 0 && verse < size;
        }
    }

    /** How often verses sold together, for both orders of a pair alike. */
    private static final class Pairs {
        final int[] often = new int[MOST_VERSES * MOST_VERSES];

        void copyFrom(Pairs other) {
            copyRow(other.often, often);
        }

        int times(int one, int other) {
            return often[one * MOST_VERSES + other];
        }

        void addOne(int one, int other) {
            often[one * MOST_VERSES + other]++;
            if (one != other) {
                often[other * MOST_VERSES + one]++;
            }
        }

        int unlike() {
            int pairs = 0;
            for (int one = 0; one < MOST_VERSES; one++) {
                for (int other = one; other < MOST_VERSES; other++) {
                    if (times(one, other) > 0) {
                        pairs++;
                    }
                }
            }
            return pairs;
        }

        int mostWith(int verse) {
            int best = NONE;
            int most = 0;
            for (int other = 0; other < MOST_VERSES; other++) {
                if (other != verse && times(verse, other) > most) {
                    best = other;
                    most = times(verse, other);
                }
            }
            return best;
        }
    }

    /** The slots; one that is empty holds NONE. */
    private static final class Rack {
        final int[] held = new int[SLOTS];
        final int[] cards = new int[SLOTS];
        final int[] sold = new int[SLOTS];

        Rack() {
            for (int slot = 0; slot < SLOTS; slot++) {
                held[slot] = NONE;
            }
        }

        void copyFrom(Rack other) {
            copyRow(other.held, held);
            copyRow(other.cards, cards);
            copyRow(other.sold, sold);
        }

        int cardsOf(int verse) {
            int sum = 0;
            for (int slot = 0; slot < SLOTS; slot++) {
                if (held[slot] == verse) {
                    sum += cards[slot];
                }
            }
            return sum;
        }

        int lowestWithCardsOf(int verse) {
            for (int slot = 0; slot < SLOTS; slot++) {
                if (held[slot] == verse && cards[slot] > 0) {
                    return slot;
                }
            }
            return NONE;
        }

        int besideThatHold(int slot, int verse) {
            int number = 0;
            for (int other = 0; other < SLOTS; other++) {
                if (areBeside(slot, other) && held[other] == verse) {
                    number++;
                }
            }
            return number;
        }

        boolean hasRoomFor(int slot, int verse) {
            return held[slot] == NONE || held[slot] == verse && cards[slot] < MOST_CARDS;
        }

        void takeCardsOf(int verse) {
            for (int slot = 0; slot < SLOTS; slot++) {
                if (held[slot] == verse) {
                    cards[slot] = 0;
                }
            }
        }
    }

    /** The orders on their way, sorted by the day on which they come and then as they were placed. */
    private static final class Deliveries {
        int size = 0;
        final int[] ordered = new int[MOST_ORDERS];
        final int[] amount = new int[MOST_ORDERS];
        final int[] due = new int[MOST_ORDERS];

        void copyFrom(Deliveries other) {
            size = other.size;
            copyRow(other.ordered, ordered);
            copyRow(other.amount, amount);
            copyRow(other.due, due);
        }

        boolean isFull() {
            return size >= MOST_ORDERS;
        }

        int cardsOf(int verse) {
            int sum = 0;
            for (int i = 0; i < size; i++) {
                if (ordered[i] == verse) {
                    sum += amount[i];
                }
            }
            return sum;
        }

        void add(int verse, int cards, int day) {
            if (isFull()) {
                return;
            }
            int place = size;
            while (place > 0 && due[place - 1] > day) {
                move(place - 1, place);
                place--;
            }
            ordered[place] = verse;
            amount[place] = cards;
            due[place] = day;
            size++;
        }

        boolean firstIsDue(int day) {
            return size > 0 && due[0] <= day;
        }

        void removeFirst() {
            for (int i = 1; i < size; i++) {
                move(i, i - 1);
            }
            size = Math.max(0, size - 1);
        }

        private void move(int from, int to) {
            ordered[to] = ordered[from];
            amount[to] = amount[from];
            due[to] = due[from];
        }
    }

    /** Everything that a change records: all but the text. */
    private static final class State {
        final Calendar calendar = new Calendar();
        final Verses verses = new Verses();
        final Pairs pairs = new Pairs();
        final Rack rack = new Rack();
        final Deliveries deliveries = new Deliveries();
        int delay = 3;
        int percent = 50;
        int returned = 0;
        int account = 0;

        void copyFrom(State other) {
            calendar.copyFrom(other.calendar);
            verses.copyFrom(other.verses);
            pairs.copyFrom(other.pairs);
            rack.copyFrom(other.rack);
            deliveries.copyFrom(other.deliveries);
            delay = other.delay;
            percent = other.percent;
            returned = other.returned;
            account = other.account;
        }

        int addVerse(int occasion, int price, int cost) {
            if (!isOccasion(occasion) || !isWithin(price, 1, HIGHEST_PRICE)
                    || !isWithin(cost, 0, HIGHEST_COST)) {
                return INVALID_ARGUMENT;
            }
            int verse = verses.size;
            if (verse >= MOST_VERSES) {
                return LIMIT_REACHED;
            }
            verses.occasion[verse] = occasion;
            verses.price[verse] = price;
            verses.cost[verse] = cost;
            verses.size++;
            return verse;
        }

        int changeSeason(int occasion, int first, int last) {
            if (!isOccasion(occasion) || !isWithin(first, 0, YEAR - 1)
                    || !isWithin(last, 0, YEAR - 1)) {
                return INVALID_ARGUMENT;
            }
            calendar.first[occasion] = first;
            calendar.last[occasion] = last;
            return calendar.isInSeason(occasion) ? 1 : 0;
        }

        int placeOrder(int verse, int amount) {
            if (!verses.has(verse) || !isWithin(amount, 1, MOST_ORDERED)) {
                return INVALID_ARGUMENT;
            }
            boolean atOnce = delay == 0;
            if (!atOnce && deliveries.isFull() || !hasRoomBehind(verse, amount)) {
                return LIMIT_REACHED;
            }
            account -= verses.cost[verse] * amount;
            if (atOnce) {
                verses.stock[verse] += amount;
            } else {
                deliveries.add(verse, amount, calendar.day + delay);
            }
            return calendar.day + delay;
        }

        /** Room is kept for what is on its way, so that orders can always come in. */
        boolean hasRoomBehind(int verse, int amount) {
            return verses.stock[verse] + deliveries.cardsOf(verse) + amount <= MOST_STOCK;
        }

        int layCards(int slot, int verse, int amount) {
            if (!isSlot(slot) || !verses.has(verse) || !isWithin(amount, 1, MOST_CARDS)) {
                return INVALID_ARGUMENT;
            }
            boolean takenByOther = rack.held[slot] != verse && rack.cards[slot] > 0;
            if (takenByOther || verses.stock[verse] < amount) {
                return NOT_POSSIBLE;
            }
            if (rack.cards[slot] + amount > MOST_CARDS) {
                return LIMIT_REACHED;
            }
            verses.stock[verse] -= amount;
            rack.held[slot] = verse;
            rack.cards[slot] += amount;
            return rack.cards[slot];
        }

        int clearSlot(int slot) {
            if (!isSlot(slot)) {
                return INVALID_ARGUMENT;
            }
            int verse = rack.held[slot];
            if (!verses.has(verse)) {
                return NOT_POSSIBLE;
            }
            int cards = rack.cards[slot];
            if (!hasRoomBehind(verse, cards)) {
                return LIMIT_REACHED;
            }
            verses.stock[verse] += cards;
            rack.held[slot] = NONE;
            rack.cards[slot] = 0;
            return cards;
        }

        int sellOne(int verse) {
            if (!verses.has(verse)) {
                return INVALID_ARGUMENT;
            }
            verses.wanted[verse]++;
            int slot = slotToSell(verse);
            int taken = isSlot(slot) ? rack.held[slot] : NONE;
            if (!verses.has(taken)) {
                verses.lost[verse]++;
                return SALE_LOST;
            }
            rack.cards[slot]--;
            rack.sold[slot]++;
            verses.sold[taken]++;
            if (taken != verse) {
                verses.instead[taken]++;
            }
            account += verses.price[taken];
            return taken;
        }

        int sellBoth(int one, int other) {
            if (!verses.has(one) || !verses.has(other)) {
                return INVALID_ARGUMENT;
            }
            int forOne = sellOne(one);
            int forOther = sellOne(other);
            if (verses.has(forOne) && verses.has(forOther)) {
                pairs.addOne(forOne, forOther);
                return 2;
            }
            return verses.has(forOne) || verses.has(forOther) ? 1 : 0;
        }

        /** The slot out of which somebody who wants the verse gets a card, or NONE. */
        int slotToSell(int verse) {
            if (!calendar.isInSeason(verses.occasion[verse])) {
                return NONE;
            }
            int own = rack.lowestWithCardsOf(verse);
            return own == NONE ? slotOfOther(verse) : own;
        }

        int slotOfOther(int verse) {
            int best = NONE;
            int most = NONE;
            for (int slot = 0; slot < SLOTS; slot++) {
                if (rack.cards[slot] > 0 && hasOccasion(slot, verses.occasion[verse])) {
                    int beside = rack.besideThatHold(slot, verse);
                    if (beside > most) {
                        best = slot;
                        most = beside;
                    }
                }
            }
            return best;
        }

        boolean hasOccasion(int slot, int occasion) {
            int verse = rack.held[slot];
            return verses.has(verse) && verses.occasion[verse] == occasion;
        }

        int returnCards() {
            int cards = 0;
            for (int verse = 0; verse < verses.size; verse++) {
                if (!calendar.isInSeason(verses.occasion[verse])) {
                    cards += returnCardsOf(verse);
                }
            }
            if (cards == 0) {
                return NOT_POSSIBLE;
            }
            returned += cards;
            return cards;
        }

        int returnCardsOf(int verse) {
            int cards = verses.stock[verse] + rack.cardsOf(verse);
            verses.stock[verse] = 0;
            rack.takeCardsOf(verse);
            account += cards * (verses.cost[verse] * percent / 100);
            return cards;
        }

        int passDays(int days) {
            if (!isWithin(days, 1, MOST_DAYS)) {
                return INVALID_ARGUMENT;
            }
            if (calendar.day + days > LAST_DAY) {
                return LIMIT_REACHED;
            }
            calendar.day += days;
            return takeIn();
        }

        /** Takes in what is due by now; nothing can happen between days that pass in one call. */
        int takeIn() {
            int came = 0;
            while (came < MOST_ORDERS && deliveries.firstIsDue(calendar.day)) {
                int verse = deliveries.ordered[0];
                if (verses.has(verse)) {
                    verses.stock[verse] += deliveries.amount[0];
                }
                deliveries.removeFirst();
                came++;
            }
            return came;
        }

        int changeSetting(int what, int value) {
            if (what == 0 && isWithin(value, 0, LONGEST_DELAY)) {
                int was = delay;
                delay = value;
                return was;
            }
            if (what == 1 && isWithin(value, 0, MOST_PERCENT)) {
                int was = percent;
                percent = value;
                return was;
            }
            return INVALID_ARGUMENT;
        }

        int cardsInAll(int verse) {
            return rack.cardsOf(verse) + verses.stock[verse] + deliveries.cardsOf(verse);
        }

        int aboutVerse(int verse, int what) {
            switch (what) {
                case 0: return verses.occasion[verse];
                case 1: return verses.price[verse];
                case 2: return verses.cost[verse];
                case 3: return verses.stock[verse];
                case 4: return rack.cardsOf(verse);
                case 5: return deliveries.cardsOf(verse);
                case 6: return verses.sold[verse];
                case 7: return verses.instead[verse];
                case 8: return verses.lost[verse];
                default: return verses.wanted[verse];
            }
        }

        int aboutSlot(int slot, int what) {
            int verse = rack.held[slot];
            boolean asksVerse = what == 0 || what == 4;
            if (asksVerse && !verses.has(verse)) {
                return NOT_FOUND;
            }
            switch (what) {
                case 0: return verse;
                case 1: return rack.cards[slot];
                case 2: return rack.sold[slot];
                case 3: return BESIDE[slot];
                default: return alikeBeside(slot, verses.occasion[verse]);
            }
        }

        int alikeBeside(int slot, int occasion) {
            int set = 0;
            for (int other = 0; other < SLOTS; other++) {
                if (areBeside(slot, other) && hasOccasion(other, occasion)) {
                    set |= 1 << other;
                }
            }
            return set;
        }

        int aboutOrder(int index, int what) {
            if (index < 0 || index >= deliveries.size) {
                return NOT_FOUND;
            }
            switch (what) {
                case 0: return deliveries.ordered[index];
                case 1: return deliveries.amount[index];
                default: return deliveries.due[index] - calendar.day;
            }
        }

        /** The best slot for a verse, or NONE. */
        int slotToLay(int verse) {
            int best = NONE;
            int most = NONE;
            for (int slot = 0; slot < SLOTS; slot++) {
                if (rack.hasRoomFor(slot, verse)) {
                    int sum = soldTogetherBeside(slot, verse);
                    if (sum > most) {
                        best = slot;
                        most = sum;
                    }
                }
            }
            return best;
        }

        int soldTogetherBeside(int slot, int verse) {
            int sum = 0;
            for (int other = 0; other < SLOTS; other++) {
                if (areBeside(slot, other) && verses.has(rack.held[other])) {
                    sum += pairs.times(verse, rack.held[other]);
                }
            }
            return sum;
        }
    }

    /** The text, and the order in it that was read last. */
    private static final class Text {
        final char[] signs = new char[MOST_SIGNS];
        int length = 0;
        final int[] numbers = new int[MOST_NUMBERS];
        char kind = 0;
        int end = 0;

        boolean append(char sign) {
            if (length >= MOST_SIGNS) {
                return false;
            }
            signs[length] = sign;
            length++;
            return true;
        }

        /** Behind the text there is the sign 0, which no order has. */
        char signAt(int place) {
            return place >= 0 && place < length ? signs[place] : (char) 0;
        }

        /** Reads an order; end is behind it then, or, if it has not the form, where it breaks off. */
        boolean readOrder(int start) {
            end = start;
            kind = signAt(start);
            int parts = numbersOf(kind);
            if (parts == 0) {
                return false;
            }
            end++;
            for (int i = 0; i < parts; i++) {
                char closing = i < parts - 1 ? ',' : ';';
                if (!readNumber(i) || signAt(end) != closing) {
                    return false;
                }
                end++;
            }
            return true;
        }

        boolean readNumber(int index) {
            int value = 0;
            int digits = 0;
            while (digits < MOST_DIGITS && isWithin(signAt(end), '0', '9')) {
                value = value * 10 + (signAt(end) - '0');
                digits++;
                end++;
            }
            if (index >= 0 && index < MOST_NUMBERS) {
                numbers[index] = value;
            }
            return digits > 0;
        }

        /** How many numbers an order has that begins with the sign; 0 if none begins with it. */
        static int numbersOf(char sign) {
            switch (sign) {
                case 'v':
                case 'l': return 3;
                case 'o': return 2;
                case 's':
                case 'd': return 1;
                default: return 0;
            }
        }
    }

    /** Does the orders of a text on a state, up to the first that is not possible. */
    private static final class Rehearsal {
        int position = 0;
        int reason = NO_FAULT;
        int cause = 0;
        int done = 0;

        void go(Text text, State state) {
            position = 0;
            reason = NO_FAULT;
            cause = 0;
            done = 0;
            for (int i = 0; i < MOST_SIGNS && reason == NO_FAULT && position < text.length; i++) {
                boolean formed = text.readOrder(position);
                int answer = formed ? perform(text, state) : INVALID_ARGUMENT;
                if (!formed) {
                    blame(FAULT_OF_FORM, text.end - position);
                } else if (answer < 0) {
                    blame(FAULT_OF_CALL, answer);
                } else {
                    position = text.end;
                    done++;
                }
            }
        }

        private void blame(int why, int what) {
            reason = why;
            cause = what;
        }

        /** Does the order that was read last; answers what its call returns. */
        private static int perform(Text text, State state) {
            int one = text.numbers[0];
            int two = text.numbers[1];
            int three = text.numbers[2];
            switch (text.kind) {
                case 'v': return state.addVerse(one, two, three);
                case 'o': return state.placeOrder(one, two);
                case 'l': return state.layCards(one, two, three);
                case 's': return state.sellOne(one);
                default: return state.passDays(one);
            }
        }
    }
}
