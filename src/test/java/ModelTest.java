import java.util.ArrayDeque;
import java.util.ArrayList;
import java.util.HashMap;
import java.util.HashSet;
import java.util.List;
import java.util.Map;
import java.util.Set;
import java.util.regex.Matcher;
import java.util.regex.Pattern;

/** Long runs of calls, each answer compared with that of a plain model, written in another way. */
public final class ModelTest {
    private static final int INVALID = -1000001;
    private static final int IMPOSSIBLE = -1000002;
    private static final int LIMIT = -1000003;
    private static final int MISSING = -1000004;
    private static final int LOST = 100;
    private static final int RUNS = 400;
    private static final int CALLS = 512;

    private static int wrong = 0;

    public static void main(String[] args) {
        Checks.begin("ModelTest");
        Checks.watch();
        for (int run = 0; run < RUNS && wrong < 20; run++) {
            new Run(run).go();
        }
        System.out.println(wrong == 0 ? "ModelTest: all answers are as due"
                : "ModelTest: " + wrong + " answers are not as due");
        if (wrong != 0) {
            System.exit(1);
        }
    }

    // ---- runs

    /** A run of calls; what it does most depends on its number, so that different states come up. */
    private static final class Run {
        final int number;
        final CardRacks racks = new CardRacks();
        final Model model = new Model();
        final List<String> told = new ArrayList<>();
        long seed;
        int calls = 0;

        Run(int number) {
            this.number = number;
            this.seed = number * 7919L + 17;
        }

        int below(int bound) {
            seed = seed * 6364136223846793005L + 1442695040888963407L;
            return (int) ((seed >>> 33) % bound);
        }

        boolean oneIn(int many) {
            return below(many) == 0;
        }

        int verse() {
            int size = model.now.verses.size();
            return oneIn(25) || size == 0 ? below(14) - 1 : below(size);
        }

        int slot() {
            return oneIn(30) ? below(12) - 1 : below(10);
        }

        int within(int least, int most) {
            if (oneIn(30)) {
                return oneIn(2) ? least - 1 : most + 1;
            }
            return oneIn(10) ? (oneIn(2) ? least : most) : least + below(most - least + 1);
        }

        void go() {
            if (number % 3 != 0) {
                call("set", 0, number % 3 == 1 ? 0 : 1);
            }
            for (int i = 0; i < 1 + number % 5; i++) {
                call("verse", number % 2 == 0 ? 1 : below(5), within(1, 99), within(0, 99));
            }
            if (number % 8 == 4) {
                fill();
            }
            for (int i = 0; i < 19 && number % 6 == 5; i++) {
                call("pass", 99);
            }
            while (calls < CALLS && wrong < 20) {
                change();
                for (int i = below(4); i > 0; i--) {
                    ask();
                }
            }
        }

        /** The limits of the back room are near then. */
        void fill() {
            call("set", 0, 0);
            for (int i = 0; i < 10; i++) {
                call("order", 0, 999);
                call("lay", i % 3, 0, 3);
            }
            call("order", 0, 9);
        }

        void change() {
            switch (below(number % 4 == 0 ? 20 : 16)) {
                case 0: call("verse", within(0, 4), within(1, 99), within(0, 99)); break;
                case 1: if (number % 3 == 0 || oneIn(5)) { season(); } break;
                case 2: case 3: call("order", verse(), oneIn(3) ? within(1, 999) : within(1, 12)); break;
                case 4: case 5: case 6: call("lay", slot(), verse(), within(1, oneIn(3) ? 12 : 3)); break;
                case 7: call("clear", slot()); break;
                case 8: case 9: call("sell", verse()); break;
                case 10: case 11: case 12: call("sellTwo", verse(), verse()); break;
                case 13: pass(); break;
                case 14: setOrUndo(); break;
                case 15: text(); break;
                default: call("order", verse(), oneIn(9) ? 1 + below(9) : 999); break;
            }
        }

        void season() {
            int today = model.now.day % 360;
            if (oneIn(3)) {
                call("season", within(0, 4), within(0, 359), within(0, 359));
            } else {
                int first = (today + 358 + below(5)) % 360;
                int length = oneIn(2) ? 355 + below(5) : below(6);
                call("season", within(0, 4), first, (first + length) % 360);
            }
        }

        void pass() {
            call("pass", oneIn(3) ? within(1, 99) : within(1, 4));
            if (oneIn(2)) {
                call("giveBack");
            }
        }

        void setOrUndo() {
            if (oneIn(2)) {
                for (int i = 1 + below(6); i > 0; i--) {
                    call("undo");
                }
            } else if (oneIn(2)) {
                call("set", 0, oneIn(2) ? below(3) : within(0, 30));
            } else {
                call("set", oneIn(9) ? within(0, 1) : 1, within(0, 100));
            }
        }

        void text() {
            if (oneIn(2)) {
                call("clearText");
            }
            StringBuilder order = new StringBuilder();
            for (int i = below(4); i >= 0; i--) {
                order.append(textOrder());
            }
            if (oneIn(4)) {
                order.setCharAt(below(order.length()), ";,0123456789vosldx ".charAt(below(19)));
            }
            if (oneIn(6)) {
                order.setLength(below(order.length()) + 1);
            }
            for (int i = 0; i < order.length(); i++) {
                call("type", order.charAt(i));
            }
            if (oneIn(9)) {
                call("type", within(32, 126));
            }
            for (int what = 0; what <= 2; what++) {
                call("fault", what);
            }
            call("play");
        }

        String textOrder() {
            switch (below(6)) {
                case 0: return "v" + digits(within(0, 4)) + "," + digits(within(1, 99)) + "," + digits(below(100)) + ";";
                case 1: return "o" + digits(verse()) + "," + digits(below(1000)) + ";";
                case 2: return "l" + digits(slot()) + "," + digits(verse()) + "," + digits(within(1, 4)) + ";";
                case 3: return "d" + digits(oneIn(3) ? below(120) : 1) + ";";
                default: return "s" + digits(verse()) + ";";
            }
        }

        String digits(int number) {
            return (oneIn(6) ? "0" : "") + Math.abs(number);
        }

        void ask() {
            switch (below(12)) {
                case 0: call("verseOf", verse(), within(0, 9)); break;
                case 1: call("slotOf", slot(), within(0, 4)); break;
                case 2: call("orderOf", within(0, 3), within(0, 2)); break;
                case 3: call("occasionOf", within(0, 4), within(0, 4)); break;
                case 4: call("together", verse(), verse()); break;
                case 5: call("would", verse(), within(0, 1)); break;
                case 6: call("bestSlot", verse()); break;
                case 7: call("partner", verse()); break;
                case 8: call("lasts", verse()); break;
                case 9: call("fault", within(0, 2)); break;
                case 10: call("count", within(20, 21)); break;
                default: call("count", within(0, 11)); break;
            }
        }

        void call(String name, int... a) {
            if (calls >= CALLS) {
                return;
            }
            calls++;
            int got = ask(racks, name, a);
            int want = model.ask(name, a);
            StringBuilder line = new StringBuilder(name).append('(');
            for (int i = 0; i < a.length; i++) {
                line.append(i == 0 ? "" : ", ").append(a[i]);
            }
            line.append(')');
            told.add(line.toString());
            if (got != want) {
                wrong++;
                System.out.println("run " + number + ", call " + calls + ": " + line + " answered " + got
                        + ", due is " + want + "; " + told.subList(Math.max(0, calls - 6), calls));
            }
        }

        static int ask(CardRacks x, String name, int[] a) {
            switch (name) {
                case "verse": return x.verse(a[0], a[1], a[2]);
                case "season": return x.season(a[0], a[1], a[2]);
                case "order": return x.order(a[0], a[1]);
                case "lay": return x.lay(a[0], a[1], a[2]);
                case "clear": return x.clear(a[0]);
                case "sell": return x.sell(a[0]);
                case "sellTwo": return x.sellTwo(a[0], a[1]);
                case "giveBack": return x.giveBack();
                case "pass": return x.pass(a[0]);
                case "set": return x.set(a[0], a[1]);
                case "verseOf": return x.verseOf(a[0], a[1]);
                case "slotOf": return x.slotOf(a[0], a[1]);
                case "orderOf": return x.orderOf(a[0], a[1]);
                case "occasionOf": return x.occasionOf(a[0], a[1]);
                case "together": return x.together(a[0], a[1]);
                case "would": return x.would(a[0], a[1]);
                case "bestSlot": return x.bestSlot(a[0]);
                case "partner": return x.partner(a[0]);
                case "lasts": return x.lasts(a[0]);
                case "count": return x.count(a[0]);
                case "undo": return x.undo();
                case "type": return x.type(a[0]);
                case "clearText": return x.clearText();
                case "fault": return x.fault(a[0]);
                case "play": return x.play();
                default: throw new IllegalArgumentException(name);
            }
        }
    }

    // ---- the model

    private record Verse(int occasion, int price, int cost) {
    }

    private record Coming(int verse, int amount, int day) {
    }

    /** A sale or a lost one: slot and sold are -1 if it is lost. */
    private record Wish(int wanted, int slot, int sold) {
    }

    /** What happened is kept as lists of facts, out of which all sums are told anew. */
    private static final class Facts {
        final List<Verse> verses = new ArrayList<>();
        final List<Coming> coming = new ArrayList<>();
        final List<Wish> wishes = new ArrayList<>();
        final List<int[]> sets = new ArrayList<>();
        final Map<Integer, Integer> room = new HashMap<>();
        final Map<Integer, Integer> held = new HashMap<>();
        final Map<Integer, Integer> cards = new HashMap<>();
        final Map<Integer, int[]> seasons = new HashMap<>();
        final int[] settings = {3, 50};
        int day = 0;
        int account = 0;
        int returned = 0;

        Facts copy() {
            Facts other = new Facts();
            other.verses.addAll(verses);
            other.coming.addAll(coming);
            other.wishes.addAll(wishes);
            other.sets.addAll(sets);
            other.room.putAll(room);
            other.held.putAll(held);
            other.cards.putAll(cards);
            other.seasons.putAll(seasons);
            other.settings[0] = settings[0];
            other.settings[1] = settings[1];
            other.day = day;
            other.account = account;
            other.returned = returned;
            return other;
        }

        boolean noVerse(int verse) {
            return verse < 0 || verse >= verses.size();
        }

        int room(int verse) {
            return room.getOrDefault(verse, 0);
        }

        int cards(int slot) {
            return cards.getOrDefault(slot, 0);
        }

        int held(int slot) {
            return held.getOrDefault(slot, -1);
        }

        Set<Integer> seasonDays(int occasion) {
            int[] season = seasons.getOrDefault(occasion, new int[] {0, 359});
            Set<Integer> days = new HashSet<>();
            int day = season[0];
            days.add(day);
            while (day != season[1]) {
                day = (day + 1) % 360;
                days.add(day);
            }
            return days;
        }

        boolean sells(int occasion) {
            return seasonDays(occasion).contains(day % 360);
        }

        static List<Integer> beside(int slot) {
            List<Integer> found = new ArrayList<>();
            for (int other = 0; other < 10; other++) {
                int across = Math.abs(slot % 5 - other % 5);
                int down = Math.abs(slot / 5 - other / 5);
                if (across + down == 1) {
                    found.add(other);
                }
            }
            return found;
        }

        int onTheWay(int verse) {
            return coming.stream().filter(c -> c.verse == verse).mapToInt(Coming::amount).sum();
        }

        int inRack(int verse) {
            int sum = 0;
            for (int slot = 9; slot >= 0; slot--) {
                sum += held(slot) == verse ? cards(slot) : 0;
            }
            return sum;
        }

        int together(int one, int other) {
            int times = 0;
            for (int[] set : sets) {
                times += set[0] == one && set[1] == other || set[1] == one && set[0] == other ? 1 : 0;
            }
            return times;
        }

        Wish wish(int wanted) {
            int best = -1;
            int bestValue = 0;
            if (sells(verses.get(wanted).occasion)) {
                for (int slot = 9; slot >= 0; slot--) {
                    int value = value(slot, wanted);
                    if (value > 0 && value >= bestValue) {
                        best = slot;
                        bestValue = value;
                    }
                }
            }
            return new Wish(wanted, best, best < 0 ? -1 : held(best));
        }

        /** 0: nothing to sell; 1 to 5: another verse, by the slots beside it; 9: the wanted one. */
        int value(int slot, int wanted) {
            if (cards(slot) == 0) {
                return 0;
            }
            if (held(slot) == wanted) {
                return 9;
            }
            if (verses.get(held(slot)).occasion != verses.get(wanted).occasion) {
                return 0;
            }
            return 1 + (int) beside(slot).stream().filter(s -> held(s) == wanted).count();
        }

        int verse(int occasion, int price, int cost) {
            if (occasion < 0 || occasion > 4 || price < 1 || price > 99 || cost < 0 || cost > 99) {
                return INVALID;
            }
            if (verses.size() == 12) {
                return LIMIT;
            }
            verses.add(new Verse(occasion, price, cost));
            return verses.size() - 1;
        }

        int season(int occasion, int first, int last) {
            if (occasion < 0 || occasion > 4 || first < 0 || first > 359 || last < 0 || last > 359) {
                return INVALID;
            }
            seasons.put(occasion, new int[] {first, last});
            return sells(occasion) ? 1 : 0;
        }

        int order(int verse, int amount) {
            if (noVerse(verse) || amount < 1 || amount > 999) {
                return INVALID;
            }
            if (coming.size() == 8 && settings[0] != 0 || room(verse) + onTheWay(verse) + amount > 9999) {
                return LIMIT;
            }
            account -= amount * verses.get(verse).cost;
            coming.add(new Coming(verse, amount, day + settings[0]));
            comeIn();
            return day + settings[0];
        }

        int comeIn() {
            int before = coming.size();
            for (Coming c : List.copyOf(coming)) {
                if (c.day == day) {
                    room.merge(c.verse, c.amount, Integer::sum);
                    coming.remove(c);
                }
            }
            return before - coming.size();
        }

        int lay(int slot, int verse, int amount) {
            if (slot < 0 || slot > 9 || noVerse(verse) || amount < 1 || amount > 12) {
                return INVALID;
            }
            if (cards(slot) > 0 && held(slot) != verse || room(verse) < amount) {
                return IMPOSSIBLE;
            }
            if (cards(slot) + amount > 12) {
                return LIMIT;
            }
            held.put(slot, verse);
            cards.merge(slot, amount, Integer::sum);
            room.merge(verse, -amount, Integer::sum);
            return cards(slot);
        }

        int clear(int slot) {
            if (slot < 0 || slot > 9) {
                return INVALID;
            }
            if (!held.containsKey(slot)) {
                return IMPOSSIBLE;
            }
            int had = cards(slot);
            int verse = held(slot);
            if (room(verse) + onTheWay(verse) + had > 9999) {
                return LIMIT;
            }
            room.merge(verse, had, Integer::sum);
            held.remove(slot);
            cards.remove(slot);
            return had;
        }

        int sell(int verse) {
            if (noVerse(verse)) {
                return INVALID;
            }
            Wish wish = wish(verse);
            wishes.add(wish);
            if (wish.slot < 0) {
                return LOST;
            }
            cards.merge(wish.slot, -1, Integer::sum);
            account += verses.get(wish.sold).price;
            return wish.sold;
        }

        int sellTwo(int one, int other) {
            if (noVerse(one) || noVerse(other)) {
                return INVALID;
            }
            int a = sell(one);
            int b = sell(other);
            if (a != LOST && b != LOST) {
                sets.add(new int[] {a, b});
            }
            return (a == LOST ? 0 : 1) + (b == LOST ? 0 : 1);
        }

        int giveBack() {
            int sum = 0;
            for (int verse = 0; verse < verses.size(); verse++) {
                Verse v = verses.get(verse);
                if (!sells(v.occasion)) {
                    int there = room(verse) + inRack(verse);
                    for (int i = 0; i < there; i++) {
                        account += v.cost * settings[1] / 100;
                    }
                    room.put(verse, 0);
                    for (int slot = 0; slot < 10; slot++) {
                        if (held(slot) == verse) {
                            cards.put(slot, 0);
                        }
                    }
                    sum += there;
                }
            }
            returned += sum;
            return sum == 0 ? IMPOSSIBLE : sum;
        }

        int pass(int days) {
            if (days < 1 || days > 99) {
                return INVALID;
            }
            if (day + days >= 2000) {
                return LIMIT;
            }
            int came = 0;
            for (int i = 0; i < days; i++) {
                day++;
                came += comeIn();
            }
            return came;
        }

        int set(int what, int value) {
            if (what < 0 || what > 1 || value < 0 || value > (what == 0 ? 30 : 100)) {
                return INVALID;
            }
            int was = settings[what];
            settings[what] = value;
            return was;
        }

        int verseOf(int verse, int what) {
            if (noVerse(verse)) {
                return INVALID;
            }
            Verse v = verses.get(verse);
            switch (what) {
                case 0: return v.occasion;
                case 1: return v.price;
                case 2: return v.cost;
                case 3: return room(verse);
                case 4: return inRack(verse);
                case 5: return onTheWay(verse);
                case 6: return (int) wishes.stream().filter(w -> w.sold == verse).count();
                case 7: return (int) wishes.stream().filter(w -> w.sold == verse && w.wanted != verse).count();
                case 8: return (int) wishes.stream().filter(w -> w.slot < 0 && w.wanted == verse).count();
                case 9: return (int) wishes.stream().filter(w -> w.wanted == verse).count();
                default: return INVALID;
            }
        }

        int slotOf(int slot, int what) {
            if (slot < 0 || slot > 9 || what < 0 || what > 4) {
                return INVALID;
            }
            if (what == 1) {
                return cards(slot);
            }
            if (what == 2) {
                return (int) wishes.stream().filter(w -> w.slot == slot).count();
            }
            if (what == 3) {
                return beside(slot).stream().mapToInt(s -> 1 << s).sum();
            }
            if (held(slot) < 0) {
                return MISSING;
            }
            int occasion = verses.get(held(slot)).occasion;
            return what == 0 ? held(slot) : beside(slot).stream()
                    .filter(s -> held(s) >= 0 && verses.get(held(s)).occasion == occasion)
                    .mapToInt(s -> 1 << s).sum();
        }

        int orderOf(int index, int what) {
            if (index < 0 || what < 0 || what > 2) {
                return INVALID;
            }
            List<Coming> sorted = new ArrayList<>(coming);
            sorted.sort((a, b) -> Integer.compare(a.day, b.day));
            if (index >= sorted.size()) {
                return MISSING;
            }
            Coming c = sorted.get(index);
            return what == 0 ? c.verse : what == 1 ? c.amount : c.day - day;
        }

        int occasionOf(int occasion, int what) {
            if (occasion < 0 || occasion > 4 || what < 0 || what > 4) {
                return INVALID;
            }
            int[] season = seasons.getOrDefault(occasion, new int[] {0, 359});
            if (what < 2) {
                return season[what];
            }
            if (what == 2) {
                return sells(occasion) ? 1 : 0;
            }
            Set<Integer> days = seasonDays(occasion);
            int n = 0;
            while (n < 360 && days.contains((day + n) % 360) == (what == 4)) {
                n++;
            }
            return n;
        }

        int would(int verse, int what) {
            if (noVerse(verse) || what < 0 || what > 1) {
                return INVALID;
            }
            Wish wish = wish(verse);
            return wish.slot < 0 ? MISSING : what == 0 ? wish.sold : wish.slot;
        }

        int bestSlot(int verse) {
            if (noVerse(verse)) {
                return INVALID;
            }
            int best = MISSING;
            int bestSum = 0;
            for (int slot = 9; slot >= 0; slot--) {
                if (held(slot) < 0 || held(slot) == verse && cards(slot) < 12) {
                    int sum = beside(slot).stream().mapToInt(s -> held(s) < 0 ? 0 : together(held(s), verse)).sum();
                    if (best < 0 || sum >= bestSum) {
                        best = slot;
                        bestSum = sum;
                    }
                }
            }
            return best;
        }

        int partner(int verse) {
            if (noVerse(verse)) {
                return INVALID;
            }
            int best = MISSING;
            int most = 1;
            for (int other = verses.size() - 1; other >= 0; other--) {
                if (other != verse && together(verse, other) >= most) {
                    best = other;
                    most = together(verse, other);
                }
            }
            return best;
        }

        int lasts(int verse) {
            if (noVerse(verse)) {
                return INVALID;
            }
            int wanted = verseOf(verse, 9);
            if (wanted == 0) {
                return MISSING;
            }
            float cards = verseOf(verse, 3) + verseOf(verse, 4) + verseOf(verse, 5);
            float days = day == 0 ? 1 : day;
            return Float.floatToIntBits(cards * days / wanted);
        }

        int count(int what) {
            int sum = 0;
            for (int verse = 0; verse < verses.size(); verse++) {
                sum += what == 2 ? verseOf(verse, 4) : what == 3 ? verseOf(verse, 3) : 0;
                sum += what == 5 ? verseOf(verse, 6) : what == 6 ? verseOf(verse, 8) : 0;
            }
            switch (what) {
                case 0: return verses.size();
                case 1: return day;
                case 2: case 3: case 5: case 6: return sum;
                case 4: return coming.size();
                case 7: return returned;
                case 8: return 100000000 + account;
                case 9:
                    Set<Integer> pairs = new HashSet<>();
                    sets.forEach(s -> pairs.add(Math.min(s[0], s[1]) * 100 + Math.max(s[0], s[1])));
                    return pairs.size();
                case 20: return settings[0];
                case 21: return settings[1];
                default: return INVALID;
            }
        }
    }

    private static final class Model {
        private static final Pattern ORDER = Pattern.compile(
                "([vl])(\\d{1,3}),(\\d{1,3}),(\\d{1,3});|(o)(\\d{1,3}),(\\d{1,3});|([sd])(\\d{1,3});");
        private static final String[] FORMS = {"v#,#,#;", "l#,#,#;", "o#,#;", "s#;", "d#;"};

        Facts now = new Facts();
        final ArrayDeque<Facts> past = new ArrayDeque<>();
        String text = "";

        int ask(String name, int[] a) {
            switch (name) {
                case "undo":
                    if (past.isEmpty()) {
                        return IMPOSSIBLE;
                    }
                    now = past.removeLast();
                    return past.size();
                case "type":
                    if (a[0] < 32 || a[0] > 126) {
                        return INVALID;
                    }
                    if (text.length() == 60) {
                        return LIMIT;
                    }
                    text += (char) a[0];
                    return text.length();
                case "clearText":
                    int had = text.length();
                    text = "";
                    return had;
                case "fault":
                    int[] fault = read(now.copy());
                    return a[0] < 0 || a[0] > 2 ? INVALID : fault[1] == 0 ? MISSING : fault[a[0]];
                case "count":
                    return a[0] == 10 ? past.size() : a[0] == 11 ? text.length() : now.count(a[0]);
                default:
                    return askFacts(name, a);
            }
        }

        int askFacts(String name, int[] a) {
            switch (name) {
                case "verseOf": return now.verseOf(a[0], a[1]);
                case "slotOf": return now.slotOf(a[0], a[1]);
                case "orderOf": return now.orderOf(a[0], a[1]);
                case "occasionOf": return now.occasionOf(a[0], a[1]);
                case "together": return now.noVerse(a[0]) || now.noVerse(a[1]) ? INVALID : now.together(a[0], a[1]);
                case "would": return now.would(a[0], a[1]);
                case "bestSlot": return now.bestSlot(a[0]);
                case "partner": return now.partner(a[0]);
                case "lasts": return now.lasts(a[0]);
                default: return change(name, a);
            }
        }

        int change(String name, int[] a) {
            Facts before = now.copy();
            int answer = changed(name, a);
            if (answer < 0) {
                now = before;
            } else {
                past.addLast(before);
                if (past.size() > 4) {
                    past.removeFirst();
                }
            }
            return answer;
        }

        int changed(String name, int[] a) {
            switch (name) {
                case "verse": return now.verse(a[0], a[1], a[2]);
                case "season": return now.season(a[0], a[1], a[2]);
                case "order": return now.order(a[0], a[1]);
                case "lay": return now.lay(a[0], a[1], a[2]);
                case "clear": return now.clear(a[0]);
                case "sell": return now.sell(a[0]);
                case "sellTwo": return now.sellTwo(a[0], a[1]);
                case "giveBack": return now.giveBack();
                case "pass": return now.pass(a[0]);
                case "set": return now.set(a[0], a[1]);
                case "play":
                    int[] fault = read(now);
                    return fault[1] == 0 ? fault[3] : IMPOSSIBLE;
                default: throw new IllegalArgumentException(name);
            }
        }

        /** Position, reason and cause of the fault, and how many orders were done. */
        int[] read(Facts facts) {
            int place = 0;
            int done = 0;
            Matcher matcher = ORDER.matcher(text);
            while (place < text.length()) {
                matcher.region(place, text.length());
                if (!matcher.lookingAt()) {
                    return new int[] {place, 1, breaksOff(text.substring(place)), done};
                }
                int answer = perform(facts, matcher.group());
                if (answer < 0) {
                    return new int[] {place, 2, answer, done};
                }
                place = matcher.end();
                done++;
            }
            return new int[] {0, 0, 0, done};
        }

        static int perform(Facts facts, String order) {
            String[] parts = order.substring(1, order.length() - 1).split(",");
            int[] n = new int[3];
            for (int i = 0; i < parts.length; i++) {
                n[i] = Integer.parseInt(parts[i]);
            }
            switch (order.charAt(0)) {
                case 'v': return facts.verse(n[0], n[1], n[2]);
                case 'o': return facts.order(n[0], n[1]);
                case 'l': return facts.lay(n[0], n[1], n[2]);
                case 's': return facts.sell(n[0]);
                default: return facts.pass(n[0]);
            }
        }

        /** The length of the longest beginning with which an order can begin. */
        static int breaksOff(String rest) {
            int longest = 0;
            for (int length = 1; length <= rest.length(); length++) {
                if (canBegin(rest.substring(0, length))) {
                    longest = length;
                }
            }
            return longest;
        }

        /** Tries each form with each number of digits for each of its numbers. */
        static boolean canBegin(String start) {
            String shape = start.replaceAll("[0-9]", "9");
            for (String form : FORMS) {
                for (int digits = 0; digits < 27; digits++) {
                    String whole = form.replaceFirst("#", "999".substring(digits % 3))
                            .replaceFirst("#", "999".substring(digits / 3 % 3))
                            .replaceFirst("#", "999".substring(digits / 9));
                    if (whole.startsWith(shape)) {
                        return true;
                    }
                }
            }
            return false;
        }
    }
}
