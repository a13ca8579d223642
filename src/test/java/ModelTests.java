import java.util.ArrayList;
import java.util.Arrays;
import java.util.List;
import java.util.Random;

/** Random runs of calls on the class and on a slow model, which is written from the document in another way; both must answer alike. */
public final class ModelTests {
    private static final int RUNS = 1500;
    private static final int CALLS = 512;

    // ---- texts: a tree for each sum and question, read by descent with an exception at the first fault

    interface Tree {
        long at(int[] names);
    }

    static final class Fault extends RuntimeException {
        private static final long serialVersionUID = 1;
        final int what;
        final int place;

        Fault(int what, int place) {
            this.what = what;
            this.place = place;
        }
    }

    static final class Text {
        Tree price, hours, worth, wet;
        final List<Tree> bars = new ArrayList<>();
    }

    static long cut(long x) {
        return x > 1000000 ? 1000000 : x < -1000000 ? -1000000 : x;
    }

    static final class Parser {
        static final List<String> NAMES = List.of("thing", "weight", "size", "tied", "taste", "want");
        final List<String> tokens = new ArrayList<>();
        final List<Integer> places = new ArrayList<>();
        int next = 0;
        boolean inWorth;

        Parser(String s) {
            int i = 0;
            while (i < s.length()) {
                char c = s.charAt(i);
                int j = i + 1;
                if (c == ' ' || c == '\n') {
                    i++;
                    continue;
                }
                if (("" + c).matches("[a-zA-Z]")) {
                    while (j < s.length() && ("" + s.charAt(j)).matches("[a-zA-Z]")) {
                        j++;
                    }
                } else if (("" + c).matches("[0-9]")) {
                    while (j < s.length() && ("" + s.charAt(j)).matches("[0-9]")) {
                        j++;
                    }
                } else if (s.startsWith("<=", i) || s.startsWith(">=", i)) {
                    j = i + 2;
                }
                tokens.add(s.substring(i, j));
                places.add(i);
                i = j;
            }
            tokens.add("END");
            places.add(s.length());
        }

        boolean atEnd() {
            return next == tokens.size() - 1;
        }

        String peek() {
            return atEnd() ? "" : tokens.get(next);
        }

        Fault fault(int what) {
            return new Fault(what, places.get(next));
        }

        void take(String what) {
            if (!peek().equals(what)) {
                throw fault(1);
            }
            next++;
        }

        Text text() {
            Text t = new Text();
            int clauses = 0;
            while (!atEnd()) {
                String word = peek();
                boolean second = word.equals("price") && t.price != null || word.equals("hours") && t.hours != null
                    || word.equals("worth") && t.worth != null || word.equals("wet") && t.wet != null;
                if (!List.of("price", "hours", "worth", "wet", "bars").contains(word)) {
                    throw fault(1);
                }
                if (second) {
                    throw fault(4);
                }
                if (clauses == 10) {
                    throw fault(6);
                }
                clauses++;
                next++;
                inWorth = word.equals("worth");
                switch (word) {
                    case "price" -> t.price = sum(0);
                    case "hours" -> t.hours = sum(0);
                    case "worth" -> t.worth = sum(0);
                    case "wet" -> t.wet = sum(0);
                    default -> t.bars.add(either());
                }
                take(";");
            }
            return t;
        }

        Tree either() {
            Tree left = both();
            while (peek().equals("or")) {
                next++;
                Tree a = left;
                Tree b = both();
                left = n -> a.at(n) + b.at(n) > 0 ? 1 : 0;
            }
            return left;
        }

        Tree both() {
            Tree left = ask(0);
            while (peek().equals("and")) {
                next++;
                Tree a = left;
                Tree b = ask(0);
                left = n -> a.at(n) * b.at(n);
            }
            return left;
        }

        Tree ask(int open) {
            if (peek().equals("not")) {
                if (open == 8) {
                    throw fault(3);
                }
                next++;
                Tree a = ask(open + 1);
                return n -> a.at(n) == 0 ? 1 : 0;
            }
            Tree a = sum(open);
            String how = peek();
            if (!List.of("<", "<=", ">", ">=", "=", "#").contains(how)) {
                throw fault(1);
            }
            next++;
            Tree b = sum(open);
            return n -> {
                long x = a.at(n);
                long y = b.at(n);
                boolean so = switch (how) {
                    case "<" -> x < y;
                    case "<=" -> x <= y;
                    case ">" -> x > y;
                    case ">=" -> x >= y;
                    case "=" -> x == y;
                    default -> x != y;
                };
                return so ? 1 : 0;
            };
        }

        Tree sum(int open) {
            Tree left = product(open);
            while (peek().equals("+") || peek().equals("-")) {
                boolean plus = peek().equals("+");
                next++;
                Tree a = left;
                Tree b = product(open);
                left = n -> cut(plus ? a.at(n) + b.at(n) : a.at(n) - b.at(n));
            }
            return left;
        }

        Tree product(int open) {
            Tree left = one(open);
            while (peek().equals("*") || peek().equals("/")) {
                boolean times = peek().equals("*");
                next++;
                Tree a = left;
                Tree b = one(open);
                left = n -> {
                    long x = a.at(n);
                    long y = b.at(n);
                    return cut(times ? x * y : y == 0 ? 0 : x / y);
                };
            }
            return left;
        }

        Tree one(int open) {
            String t = peek();
            if (t.matches("[0-9]+")) {
                String bare = t.replaceFirst("^0+", "");
                if (bare.length() > 4) {
                    throw fault(2);
                }
                long value = bare.isEmpty() ? 0 : Long.parseLong(bare);
                next++;
                return n -> value;
            }
            int name = NAMES.indexOf(t);
            if (name >= 4 && !inWorth) {
                throw fault(5);
            }
            if (name >= 0) {
                next++;
                return n -> n[name];
            }
            if (t.equals("(")) {
                if (open == 8) {
                    throw fault(3);
                }
                next++;
                Tree a = sum(open + 1);
                take(")");
                return a;
            }
            if (t.equals("-")) {
                if (open == 8) {
                    throw fault(3);
                }
                next++;
                Tree a = one(open + 1);
                return n -> cut(-a.at(n));
            }
            throw fault(1);
        }
    }

    // ---- the counter: a copy of all is made for whatever is tried

    record Thing(int size, int least, int most, int stuff) { }

    record Maker(int hours, int crafts, int wage) { }

    record Buyer(int many, int want, int taste, int carry) { }

    record Item(int thing, int weight, int water) { }

    record Gift(int from, int to, int worth) { }

    static final class Offer {
        final int maker;
        int house;
        List<Item> items = new ArrayList<>();

        Offer(int maker, int house) {
            this.maker = maker;
            this.house = house;
        }

        Offer copy() {
            Offer o = new Offer(maker, house);
            o.items = new ArrayList<>(items);
            return o;
        }
    }

    static final class Told {
        int[] sold = new int[30];
        int[] earned = new int[6];
        int[] hours = new int[6];
        int[] lacks = new int[10];
        int[] gain = new int[10];
        int all;
    }

    static final class World {
        List<Thing> things = new ArrayList<>();
        List<Maker> makers = new ArrayList<>();
        List<Buyer> buyers = new ArrayList<>();
        List<Offer> offers = new ArrayList<>();
        List<Text> texts = new ArrayList<>();
        List<Gift> gifts = new ArrayList<>();
        int[] percent = {100, 100, 100, 100};
        int by = -1;
        Told latest = new Told();

        World copy() {
            World w = new World();
            w.things = new ArrayList<>(things);
            w.makers = new ArrayList<>(makers);
            w.buyers = new ArrayList<>(buyers);
            for (Offer o : offers) {
                w.offers.add(o.copy());
            }
            w.texts = new ArrayList<>(texts);
            w.gifts = new ArrayList<>(gifts);
            w.percent = percent.clone();
            w.by = by;
            w.latest = latest;
            return w;
        }

        Text text() {
            return by < 0 ? new Text() : texts.get(by);
        }

        boolean isCraft(int maker, int thing) {
            return maker >= 0 && maker < makers.size() && thing >= 0 && thing < things.size()
                && (makers.get(maker).crafts & (1 << thing)) != 0;
        }

        static long clamp(long x, long low, long high) {
            return x < low ? low : x > high ? high : x;
        }

        int[] names(Item i, int weight, int tied, int taste, int want) {
            return new int[] {i.thing, weight, things.get(i.thing).size, tied, taste, want};
        }

        int weighed(Offer o, Item i) {
            return (i.weight + i.water) * percent[o.house] / 100;
        }

        int wet(int thing, int weight) {
            Tree wet = text().wet;
            return wet == null ? 0 : (int) clamp(wet.at(names(new Item(thing, weight, 0), weight, 1, 0, 0)), 0, 9);
        }

        int hours(Item i, int tied) {
            Tree hours = text().hours;
            return hours == null ? 1 + i.weight / 4 : (int) clamp(hours.at(names(i, i.weight, tied, 0, 0)), 1, 999);
        }

        int hours(Offer o) {
            return o.items.stream().mapToInt(i -> hours(i, o.items.size())).sum();
        }

        int price(Offer o) {
            int sum = 0;
            for (Item i : o.items) {
                Tree price = text().price;
                int weighed = weighed(o, i);
                sum += price == null ? weighed : (int) clamp(price.at(names(i, weighed, o.items.size(), 0, 0)), 0, 9999);
            }
            return sum;
        }

        int cost(Item i, int tied, int maker) {
            return hours(i, tied) * makers.get(maker).wage + things.get(i.thing).stuff * i.weight;
        }

        int cost(Offer o) {
            return o.items.stream().mapToInt(i -> cost(i, o.items.size(), o.maker)).sum();
        }

        int load(Offer o) {
            return o.items.stream().mapToInt(i -> i.weight + i.water).sum();
        }

        boolean lawful(Offer o) {
            for (Item i : o.items) {
                for (Tree bar : text().bars) {
                    if (bar.at(names(i, weighed(o, i), o.items.size(), 0, 0)) != 0) {
                        return false;
                    }
                }
            }
            return true;
        }

        int worth(Buyer b, Item i, int tied) {
            int want = b.want == i.thing ? 1 : 0;
            Tree worth = text().worth;
            if (worth == null) {
                return want == 1 ? b.taste : 0;
            }
            return (int) clamp(worth.at(names(i, i.weight, tied, b.taste, want)), -9999, 9999);
        }

        int worth(Buyer b, Offer o) {
            return o.items.stream().mapToInt(i -> worth(b, i, o.items.size())).sum();
        }

        boolean likes(Buyer b, Offer o) {
            return !o.items.isEmpty() && lawful(o) && load(o) <= b.carry && worth(b, o) >= price(o);
        }

        List<Integer> order(Buyer b) {
            List<Integer> liked = new ArrayList<>();
            int[] over = new int[offers.size()];
            for (int i = 0; i < offers.size(); i++) {
                if (likes(b, offers.get(i))) {
                    liked.add(i);
                    over[i] = worth(b, offers.get(i)) - price(offers.get(i));
                }
            }
            liked.sort((x, y) -> over[x] != over[y] ? Integer.compare(over[y], over[x]) : Integer.compare(x, y));
            return liked;
        }

        Told year() {
            Told t = new Told();
            for (int m = 0; m < makers.size(); m++) {
                t.hours[m] = makers.get(m).hours;
            }
            for (int b = 0; b < buyers.size(); b++) {
                Buyer buyer = buyers.get(b);
                int left = buyer.many;
                for (int i : order(buyer)) {
                    Offer o = offers.get(i);
                    int need = hours(o);
                    int price = price(o);
                    int gain = worth(buyer, o) - price;
                    int earns = price - cost(o);
                    while (left > 0 && t.hours[o.maker] >= need) {
                        left--;
                        t.hours[o.maker] -= need;
                        t.sold[i]++;
                        t.all++;
                        t.earned[o.maker] += earns;
                        t.gain[b] += gain;
                    }
                }
                t.lacks[b] = left;
            }
            return t;
        }

        int earnsWith(int maker, Offer... more) {
            World w = copy();
            w.offers.addAll(Arrays.asList(more));
            return w.year().earned[maker];
        }

        static Offer single(int maker, int house, int thing, int weight) {
            Offer o = new Offer(maker, house);
            o.items.add(new Item(thing, weight, 0));
            return o;
        }

        int[] best(int maker, int thing, int house) {
            int[] best = null;
            for (int w = things.get(thing).least; w <= things.get(thing).most; w++) {
                int earned = earnsWith(maker, single(maker, house, thing, w));
                if (best == null || earned > best[1]) {
                    best = new int[] {w, earned};
                }
            }
            return best;
        }

        int earnedAt(int offer, int item, int weight) {
            World w = copy();
            w.reweigh(offer, item, weight);
            return w.year().earned[offers.get(offer).maker];
        }

        void reweigh(int offer, int item, int weight) {
            Item i = offers.get(offer).items.get(item);
            offers.get(offer).items.set(item, new Item(i.thing, weight, i.water));
        }

        int rounds() {
            for (int n = 1; n <= 9; n++) {
                boolean same = true;
                for (int o = 0; o < offers.size(); o++) {
                    for (int i = 0; i < offers.get(o).items.size(); i++) {
                        Item was = offers.get(o).items.get(i);
                        Thing thing = things.get(was.thing);
                        int[] earned = new int[41];
                        int top = Integer.MIN_VALUE;
                        for (int w = thing.least; w <= thing.most; w++) {
                            earned[w] = earnedAt(o, i, w);
                            top = Math.max(top, earned[w]);
                        }
                        int chosen = was.weight;
                        if (earned[chosen] < top) {
                            chosen = thing.least;
                            while (earned[chosen] < top) {
                                chosen++;
                            }
                            same = false;
                        }
                        reweigh(o, i, chosen);
                    }
                }
                if (same) {
                    return n;
                }
            }
            return -1;
        }

        int never(int thing) {
            boolean craft = false;
            boolean liked = false;
            for (int m = 0; m < makers.size(); m++) {
                if (!isCraft(m, thing)) {
                    continue;
                }
                craft = true;
                for (int h = 0; h < 4; h++) {
                    for (int w = things.get(thing).least; w <= things.get(thing).most; w++) {
                        Offer o = single(m, h, thing, w);
                        for (Buyer b : buyers) {
                            if (likes(b, o)) {
                                liked = true;
                                if (price(o) >= cost(o)) {
                                    return 0;
                                }
                            }
                        }
                    }
                }
            }
            return !craft ? 1 : !liked ? 2 : 3;
        }

        int tied(int maker, int one, int other, int house) {
            int most = Integer.MIN_VALUE;
            for (int v = things.get(one).least; v <= things.get(one).most; v++) {
                for (int w = things.get(other).least; w <= things.get(other).most; w++) {
                    Offer both = single(maker, house, one, v);
                    both.items.add(new Item(other, w, 0));
                    most = Math.max(most, earnsWith(maker, both));
                }
            }
            Offer a = single(maker, house, one, best(maker, one, house)[0]);
            Offer b = single(maker, house, other, best(maker, other, house)[0]);
            return most - earnsWith(maker, a, b);
        }

        World under(int text) {
            World w = copy();
            w.by = text;
            return w;
        }

        int could() {
            int sum = 0;
            for (Buyer b : buyers) {
                int most = 0;
                for (int m = 0; m < makers.size(); m++) {
                    for (int t = 0; t < things.size(); t++) {
                        for (int w = things.get(t).least; isCraft(m, t) && w <= things.get(t).most && w <= b.carry; w++) {
                            Item i = new Item(t, w, 0);
                            most = Math.max(most, worth(b, i, 1) - cost(i, 1, m));
                        }
                    }
                }
                sum += b.many * most;
            }
            return sum;
        }

        int had() {
            Told t = year();
            return Arrays.stream(t.gain).sum() + Arrays.stream(t.earned).sum();
        }

        int changed(int text, int what) {
            Told now = year();
            Told then = under(text).year();
            int[] a = what < 2 ? now.gain : now.earned;
            int[] b = what < 2 ? then.gain : then.earned;
            int bits = 0;
            for (int i = 0; i < a.length; i++) {
                if (what % 2 == 0 ? b[i] > a[i] : b[i] < a[i]) {
                    bits += 1 << i;
                }
            }
            return bits;
        }

        int where(int offer) {
            int best = 0;
            int[] earned = new int[4];
            for (int h = 0; h < 4; h++) {
                World w = copy();
                w.offers.get(offer).house = h;
                earned[h] = w.year().earned[offers.get(offer).maker];
                if (earned[h] > earned[best]) {
                    best = h;
                }
            }
            return best;
        }

        int round(int who) {
            int[] far = new int[8];
            Arrays.fill(far, 99);
            for (Gift g : gifts) {
                if (g.from == who) {
                    far[g.to] = 1;
                }
            }
            for (int n = 0; n < 8; n++) {
                for (Gift g : gifts) {
                    far[g.to] = Math.min(far[g.to], far[g.from] + 1);
                }
            }
            return far[who] < 99 ? far[who] : -1;
        }

        static int net(List<Gift> gifts, int who) {
            return gifts.stream().mapToInt(g -> g.to == who ? g.worth : g.from == who ? -g.worth : 0).sum();
        }

        int steady() {
            List<Gift> left = new ArrayList<>(gifts);
            for (int n = 0; ; n++) {
                int who = 0;
                for (int p = 1; p < 8; p++) {
                    if (net(left, p) < net(left, who)) {
                        who = p;
                    }
                }
                if (net(left, who) >= 0) {
                    return n;
                }
                Gift dearest = null;
                for (Gift g : left) {
                    if (g.from == who && (dearest == null || g.worth > dearest.worth)) {
                        dearest = g;
                    }
                }
                for (int i = 0; i < left.size(); i++) {
                    if (left.get(i) == dearest) {
                        left.remove(i);
                        break;
                    }
                }
            }
        }
    }

    static final class Model {
        World now = new World();
        World image = new World();
        String tape = "";
        Fault latest;
        boolean hasRead;

        static boolean in(int x, int low, int high) {
            return x >= low && x <= high;
        }

        int thing(int size, int least, int most, int stuff) {
            if (!in(size, 1, 99) || !in(least, 1, 40) || !in(most, 1, 40) || least > most || !in(stuff, 0, 99) || now.things.size() == 10) {
                return -1;
            }
            now.things.add(new Thing(size, least, most, stuff));
            return now.things.size() - 1;
        }

        int maker(int hours, int crafts, int wage) {
            if (!in(hours, 0, 9999) || !in(crafts, 0, 1023) || !in(wage, 0, 99) || now.makers.size() == 6) {
                return -1;
            }
            now.makers.add(new Maker(hours, crafts, wage));
            return now.makers.size() - 1;
        }

        int buyer(int many, int want, int taste, int carry) {
            if (!in(many, 1, 999) || !in(want, 0, now.things.size() - 1) || !in(taste, 0, 99) || !in(carry, 1, 99) || now.buyers.size() == 10) {
                return -1;
            }
            now.buyers.add(new Buyer(many, want, taste, carry));
            return now.buyers.size() - 1;
        }

        boolean house(int house, int percent) {
            if (!in(house, 0, 3) || !in(percent, 50, 150)) {
                return false;
            }
            now.percent[house] = percent;
            return true;
        }

        int offer(int maker, int house) {
            if (!in(maker, 0, now.makers.size() - 1) || !in(house, 0, 3) || now.offers.size() == 20) {
                return -1;
            }
            now.offers.add(new Offer(maker, house));
            return now.offers.size() - 1;
        }

        boolean isOffer(int offer) {
            return in(offer, 0, now.offers.size() - 1);
        }

        int put(int offer, int thing, int weight, int water) {
            if (!isOffer(offer) || !now.isCraft(now.offers.get(offer).maker, thing) || now.offers.get(offer).items.size() == 3
                || !in(weight, now.things.get(thing).least, now.things.get(thing).most) || !in(water, 0, now.wet(thing, weight))) {
                return -1;
            }
            now.offers.get(offer).items.add(new Item(thing, weight, water));
            return now.offers.get(offer).items.size();
        }

        int drop(int offer) {
            if (!isOffer(offer)) {
                return -1;
            }
            int had = now.offers.get(offer).items.size();
            now.offers.get(offer).items.clear();
            return had;
        }

        int feed(int... words) {
            if (tape.length() > 280) {
                return -1;
            }
            for (int word : words) {
                for (int i = 3; i >= 0; i--) {
                    tape += (char) (word >>> 8 * i & 255);
                }
            }
            return tape.length();
        }

        int end(int n) {
            if (!in(n, 0, tape.length())) {
                return -1;
            }
            tape = tape.substring(0, n);
            return n;
        }

        int text() {
            if (now.texts.size() == 6) {
                return -1;
            }
            String s = tape;
            tape = "";
            hasRead = true;
            latest = null;
            try {
                now.texts.add(new Parser(s).text());
            } catch (Fault f) {
                latest = f;
                return -1;
            }
            return now.texts.size() - 1;
        }

        int fault(int what) {
            if (!hasRead || !in(what, 0, 1)) {
                return -1;
            }
            return what == 0 ? latest == null ? 0 : latest.what : latest == null ? -1 : latest.place;
        }

        boolean isText(int text) {
            return in(text, -1, now.texts.size() - 1);
        }

        boolean by(int text) {
            if (isText(text)) {
                now.by = text;
            }
            return isText(text);
        }

        int of(int offer, int what) {
            if (!isOffer(offer)) {
                return -1;
            }
            Offer o = now.offers.get(offer);
            for (int i = 0; i < o.items.size(); i++) {
                if (what == 10 + i) {
                    return o.items.get(i).thing;
                }
                if (what == 20 + i) {
                    return o.items.get(i).weight;
                }
                if (what == 30 + i) {
                    return o.items.get(i).water;
                }
            }
            return switch (what) {
                case 0 -> now.hours(o);
                case 1 -> now.price(o);
                case 2 -> now.cost(o);
                case 3 -> now.load(o);
                case 4 -> now.lawful(o) ? 1 : 0;
                case 5 -> now.latest.sold[offer];
                case 6 -> o.items.size();
                default -> -1;
            };
        }

        boolean isBuyer(int b) {
            return in(b, 0, now.buyers.size() - 1);
        }

        int worth(int buyer, int offer) {
            return isBuyer(buyer) && isOffer(offer) ? now.worth(now.buyers.get(buyer), now.offers.get(offer)) : -1000000;
        }

        int likes(int buyer) {
            if (!isBuyer(buyer)) {
                return -1;
            }
            List<Integer> order = now.order(now.buyers.get(buyer));
            return order.isEmpty() ? -1 : order.get(0);
        }

        int year() {
            now.latest = now.year();
            return now.latest.all;
        }

        int told(int what, int who) {
            if (!in(what, 0, 3) || (what < 2 ? !in(who, 0, now.makers.size() - 1) : !isBuyer(who))) {
                return -1000000000;
            }
            Told t = now.latest;
            return new int[][] {t.earned, t.hours, t.lacks, t.gain}[what][who];
        }

        int judge() {
            for (int i = 0; i < now.offers.size(); i++) {
                if (now.latest.sold[i] > 0 && now.price(now.offers.get(i)) < now.cost(now.offers.get(i))) {
                    return i;
                }
            }
            return -1;
        }

        int best(int maker, int thing, int house, int what) {
            boolean fits = now.isCraft(maker, thing) && in(house, 0, 3) && in(what, 0, 1);
            return fits ? now.best(maker, thing, house)[what] : -1000000000;
        }

        int never(int thing) {
            return in(thing, 0, now.things.size() - 1) ? now.never(thing) : -1;
        }

        int tied(int maker, int one, int other, int house) {
            boolean fits = now.isCraft(maker, one) && now.isCraft(maker, other) && one != other && in(house, 0, 3);
            return fits ? now.tied(maker, one, other, house) : -1000000000;
        }

        int harm(int text, int what) {
            if (!isText(text) || !in(what, 0, 2)) {
                return -1000000000;
            }
            World w = now.under(text);
            return what == 0 ? w.could() : what == 1 ? w.had() : w.could() - w.had();
        }

        int least() {
            int best = -1;
            for (int t = now.texts.size() - 1; t >= 0; t--) {
                if (best < 0 || harm(t, 2) <= harm(best, 2)) {
                    best = t;
                }
            }
            return best;
        }

        int changed(int text, int what) {
            return isText(text) && in(what, 0, 3) ? now.changed(text, what) : -1;
        }

        int where(int offer) {
            return isOffer(offer) ? now.where(offer) : -1;
        }

        int gift(int from, int to, int worth) {
            if (!in(from, 0, 7) || !in(to, 0, 7) || from == to || !in(worth, 1, 999) || now.gifts.size() == 30) {
                return -1;
            }
            now.gifts.add(new Gift(from, to, worth));
            return now.gifts.size() - 1;
        }

        int round(int who) {
            return in(who, 0, 7) ? now.round(who) : -1;
        }

        int net(int who) {
            return in(who, 0, 7) ? World.net(now.gifts, who) : -1000000;
        }

        int buyers(int seed, int n) {
            if (!in(seed, 0, 9999) || !in(n, 1, 10) || now.things.isEmpty()) {
                return -1;
            }
            int[] x = {seed * 9 + 5};
            now.buyers.clear();
            Told old = now.latest;
            now.latest = new Told();
            now.latest.sold = old.sold;
            now.latest.earned = old.earned;
            now.latest.hours = old.hours;
            int all = 0;
            for (int i = 0; i < n; i++) {
                int many = 1 + draw(x, 40);
                int want = draw(x, now.things.size());
                int taste = draw(x, 100);
                now.buyers.add(new Buyer(many, want, taste, 1 + draw(x, 99)));
                all += many;
            }
            return all;
        }

        static int draw(int[] x, int m) {
            int drawn = x[0] % m;
            x[0] = (x[0] * 211 + 29) % 30071;
            return drawn;
        }

        int image() {
            image = now.copy();
            return now.offers.size();
        }

        int back() {
            now = image.copy();
            return now.offers.size();
        }

        int about(int what) {
            if (in(what, 10, 13)) {
                return now.percent[what - 10];
            }
            if (in(what, 100, 139) && what % 10 < now.buyers.size()) {
                Buyer b = now.buyers.get(what % 10);
                return new int[] {b.many, b.want, b.taste, b.carry}[(what - 100) / 10];
            }
            return switch (what) {
                case 0 -> now.things.size();
                case 1 -> now.makers.size();
                case 2 -> now.buyers.size();
                case 3 -> now.offers.size();
                case 4 -> now.texts.size();
                case 5 -> now.by;
                case 6 -> now.gifts.size();
                case 7 -> tape.length();
                default -> -2;
            };
        }
    }

    // ---- random texts: most of them without a fault, some then spoilt

    static final class Writer {
        final Random r;
        final boolean plain;

        Writer(Random r, boolean plain) {
            this.r = r;
            this.plain = plain;
        }

        String text() {
            StringBuilder s = new StringBuilder();
            List<String> once = new ArrayList<>(List.of("price", "hours", "worth", "wet"));
            int clauses = plain ? 1 + r.nextInt(5) : r.nextInt(13);
            for (int i = 0; i < clauses; i++) {
                boolean bars = once.isEmpty() || r.nextInt(3) == 0;
                String word = bars ? "bars" : once.get(r.nextInt(once.size()));
                if (!bars && r.nextInt(12) > 0) {
                    once.remove(word);
                }
                s.append(word).append(gap(true)).append(bars ? either() : clause(word)).append(gap(false)).append(';').append(gap(false));
            }
            return s.toString();
        }

        String clause(String word) {
            if (plain && r.nextInt(3) > 0) {
                return switch (word) {
                    case "price" -> pick("weight * 3", "weight / 2", "weight + size / 9", "weight * (4 - tied)", "12 - weight", "tied * 5", "weight*tied-1");
                    case "hours" -> pick("weight", "1 + size / 10", "weight * tied", "3", "20 / weight");
                    case "worth" -> pick("taste * want + 30 - weight", "taste", "taste / 2 + want * 20", "taste - weight * 2 + tied * 4", "size * want");
                    default -> pick("3", "weight / 2", "9", "size / 10 - thing", "5 - weight");
                };
            }
            return sum(word, plain ? 2 : 1 + r.nextInt(6));
        }

        String pick(String... from) {
            return from[r.nextInt(from.length)];
        }

        String gap(boolean needed) {
            return r.nextInt(3) == 0 || needed ? r.nextInt(6) == 0 ? "\n" : " " : "";
        }

        String either() {
            StringBuilder s = new StringBuilder(ask());
            while (r.nextInt(4) == 0) {
                s.append(pick(" and ", " or ")).append(ask());
            }
            return s.toString();
        }

        String ask() {
            StringBuilder s = new StringBuilder();
            while (r.nextInt(4) == 0) {
                s.append("not ");
            }
            if (plain && r.nextInt(3) > 0) {
                return s + pick("weight > 6", "weight * 2 < size", "thing = 1 ", "tied >= 3", "size # 20", "weight <= 2");
            }
            return s + sum("bars", 1 + r.nextInt(2)) + gap(false) + pick("<", "<=", ">", ">=", "=", "#") + gap(false) + sum("bars", 1);
        }

        String sum(String word, int deep) {
            StringBuilder s = new StringBuilder(one(word, deep));
            while (r.nextInt(3) == 0) {
                s.append(gap(false)).append(pick("+", "-", "*", "/")).append(gap(false)).append(one(word, deep));
            }
            return s.toString();
        }

        String one(String word, int deep) {
            int kind = r.nextInt(deep > 0 ? 7 : 5);
            if (kind < 2) {
                return "" + switch (r.nextInt(plain ? 12 : 15)) {
                    case 0 -> 9999;
                    case 1 -> 1000 + r.nextInt(9000);
                    case 14 -> r.nextInt(4) == 0 ? 10000 : 0;
                    default -> r.nextInt(30);
                };
            }
            if (kind < 5) {
                boolean worth = word.equals("worth") || r.nextInt(plain ? 1000 : 40) == 0;
                return worth ? pick("thing", "weight", "size", "tied", "taste", "want") : pick("thing", "weight", "size", "tied");
            }
            return kind == 5 ? "(" + gap(false) + sum(word, deep - 1) + gap(false) + ")" : "-" + gap(false) + one(word, deep - 1);
        }

        String deep() {
            StringBuilder s = new StringBuilder("bars ");
            int nots = r.nextInt(5);
            for (int i = 0; i < nots; i++) {
                s.append("not ");
            }
            int open = 0;
            int more = 8 - nots - r.nextInt(2) + r.nextInt(2);
            for (int i = 0; i < more; i++) {
                if (r.nextBoolean()) {
                    s.append("- ");
                } else {
                    s.append("(");
                    open++;
                }
            }
            s.append("weight");
            for (int i = 0; i < open; i++) {
                s.append(")").append(r.nextInt(3) == 0 ? " - weight" : "");
            }
            return s.append(" < 4;").toString();
        }

        String spoilt(String s) {
            StringBuilder t = new StringBuilder(s);
            for (int n = 1 + r.nextInt(2); n > 0 && t.length() > 0; n--) {
                int at = r.nextInt(t.length());
                switch (r.nextInt(4)) {
                    case 0 -> t.deleteCharAt(at);
                    case 1 -> t.insert(at, pick(" not ", " and ", "(", ")", "-", ";", "<", "=", " 10000 ", " taste ", "X", "price ", "" + (char) r.nextInt(256)));
                    case 2 -> t.setCharAt(at, (char) (32 + r.nextInt(96)));
                    default -> t.setLength(at);
                }
            }
            return t.toString();
        }
    }

    // ---- the runs

    private static int wrong = 0;

    private final Random r;
    private final int run;
    private final ByThePound x = new ByThePound();
    private final Model m = new Model();
    private final Writer writer;
    private int calls = 0;

    private ModelTests(int run) {
        this.run = run;
        r = new Random(run * 7919L + 17);
        writer = new Writer(r, run % 4 != 0);
    }

    private boolean same(String call, long got, long want) {
        calls++;
        if (got != want) {
            wrong++;
            System.out.println("run " + run + ", call " + calls + ": " + call + " answered " + got + ", due is " + want);
        }
        return got == want;
    }

    private int some(int low, int high) {
        int odd = r.nextInt(120);
        return odd == 0 ? low - 1 : odd == 1 ? high + 1 : odd == 2 ? r.nextInt() : low + r.nextInt(Math.max(1, high - low + 1));
    }

    private boolean tell(String s) {
        boolean fine = true;
        for (int i = 0; i < s.length() && fine; i += 20) {
            int[] w = new int[5];
            for (int j = 0; j < 20; j++) {
                w[j / 4] = w[j / 4] << 8 | (i + j < s.length() ? s.charAt(i + j) & 255 : 32);
            }
            fine = same("feed", x.feed(w[0], w[1], w[2], w[3], w[4]), m.feed(w));
        }
        if (r.nextInt(8) > 0) {
            fine &= same("end " + s.length(), x.end(s.length()), m.end(s.length()));
        }
        fine &= same("text " + s, x.text(), m.text());
        return fine && same("fault", x.fault(0), m.fault(0)) && same("fault place of '" + s + "'", x.fault(1), m.fault(1));
    }

    private boolean newText() {
        String s = r.nextInt(6) == 0 ? writer.deep() : writer.text();
        if (r.nextInt(writer.plain ? 8 : 2) == 0) {
            s = writer.spoilt(s);
        }
        return tell(s.substring(0, Math.min(300, s.length())));
    }

    private boolean tellThing() {
        int least = some(1, 8);
        int size = some(1, 99);
        int most = r.nextInt(15) == 0 ? some(1, 40) : Math.min(40, least + r.nextInt(6));
        int stuff = r.nextInt(6) == 0 ? some(0, 99) : r.nextInt(3);
        return same("thing", x.thing(size, least, most, stuff), m.thing(size, least, most, stuff));
    }

    private boolean tellMaker() {
        int hours = r.nextInt(3) == 0 ? some(0, 9999) : some(0, 300);
        int crafts = r.nextBoolean() ? 1023 : some(0, 1023);
        int wage = r.nextInt(8) == 0 ? some(0, 99) : r.nextInt(3);
        return same("maker", x.maker(hours, crafts, wage), m.maker(hours, crafts, wage));
    }

    private boolean tellBuyer() {
        int many = r.nextInt(5) == 0 ? some(1, 999) : some(1, 30);
        int want = some(0, m.now.things.size() - 1);
        int taste = r.nextBoolean() ? some(40, 99) : some(0, 99);
        int carry = r.nextInt(3) == 0 ? some(1, 99) : some(1, 15);
        return same("buyer", x.buyer(many, want, taste, carry), m.buyer(many, want, taste, carry));
    }

    private boolean offerSome() {
        int maker = some(0, m.now.makers.size() - 1);
        int h = some(0, 3);
        return same("offer", x.offer(maker, h), m.offer(maker, h));
    }

    private boolean rounds() {
        if (r.nextInt(3) > 0) {
            return true;
        }
        boolean fine = same("rounds", x.rounds(), m.now.rounds());
        for (int o = 0; o < m.now.offers.size() && fine; o++) {
            for (int i = 0; i < m.now.offers.get(o).items.size(); i++) {
                fine &= same("of", x.of(o, 20 + i), m.of(o, 20 + i));
            }
        }
        return fine;
    }

    private boolean putSome() {
        int offer = some(0, m.now.offers.size() - 1);
        int thing = some(0, m.now.things.size() - 1);
        boolean known = thing >= 0 && thing < m.now.things.size();
        int weight = known ? some(m.now.things.get(thing).least, m.now.things.get(thing).most) : r.nextInt(9);
        int water = r.nextInt(3) > 0 ? 0 : some(0, known ? m.now.wet(thing, weight) : 9);
        return same("put", x.put(offer, thing, weight, water), m.put(offer, thing, weight, water));
    }

    private boolean lookAll() {
        boolean fine = true;
        for (int what : new int[] {0, 1, 2, 3, 4, 5, 6, 7, 10, 11, 12, 13, 14, some(100, 139), some(100, 139), 140}) {
            fine &= same("about " + what, x.about(what), m.about(what));
        }
        int o = some(0, m.now.offers.size() - 1);
        for (int what : new int[] {0, 1, 2, 3, 4, 5, 6, 7, 10, 11, 12, 13, 20, 21, 22, 30, 31, 32, 40, -1}) {
            fine &= same("of " + o + ", " + what, x.of(o, what), m.of(o, what));
        }
        return fine;
    }

    private boolean tellYear() {
        boolean fine = same("year", x.year(), m.year());
        for (int what = 0; what < 4; what++) {
            int who = some(0, 5);
            fine &= same("told " + what + ", " + who, x.told(what, who), m.told(what, who));
        }
        return fine && same("judge", x.judge(), m.judge());
    }

    private boolean giftCalls() {
        int from = some(0, 7);
        int to = some(0, 7);
        int worth = some(1, run % 3 == 0 ? 2 : run % 3 == 1 ? 9 : 999);
        int who = some(0, 7);
        return same("gift", x.gift(from, to, worth), m.gift(from, to, worth))
            && same("round " + who, x.round(who), m.round(who)) && same("net " + who, x.net(who), m.net(who))
            && same("steady", x.steady(), m.now.steady());
    }

    private boolean tried() {
        int maker = some(0, m.now.makers.size() - 1);
        int thing = some(0, m.now.things.size() - 1);
        int other = some(0, m.now.things.size() - 1);
        int house = some(0, 3);
        int text = some(-1, m.now.texts.size() - 1);
        int what = some(0, 3);
        int offer = some(0, m.now.offers.size() - 1);
        switch (r.nextInt(8)) {
            case 0: return same("best", x.best(maker, thing, house, what), m.best(maker, thing, house, what));
            case 1: return same("never " + thing, x.never(thing), m.never(thing));
            case 2: return same("tied", x.tied(maker, thing, other, house), m.tied(maker, thing, other, house));
            case 3: return same("harm " + text + ", " + what, x.harm(text, what), m.harm(text, what));
            case 4: return same("least", x.least(), m.least());
            case 5: return same("changed", x.changed(text, what), m.changed(text, what));
            case 6: return same("where", x.where(offer), m.where(offer));
            default: return same("best", x.best(maker, thing, house, 1), m.best(maker, thing, house, 1));
        }
    }

    private boolean anyCall() {
        switch (r.nextInt(24)) {
            case 0: return r.nextInt(3) > 0 || tellThing();
            case 1: return r.nextInt(3) > 0 || tellMaker();
            case 2: return tellBuyer();
            case 3: {
                int h = some(0, 3);
                int p = some(50, 150);
                return same("house", x.house(h, p) ? 1 : 0, m.house(h, p) ? 1 : 0);
            }
            case 4: return offerSome();
            case 5: case 6: case 7: case 8: return putSome();
            case 9: return rounds();
            case 10: {
                int o = some(0, m.now.offers.size() - 1);
                return r.nextInt(3) > 0 || same("drop", x.drop(o), m.drop(o));
            }
            case 11: return r.nextInt(3) > 0 || newText();
            case 12: case 13: {
                int t = some(-1, m.now.texts.size() - 1);
                return same("by " + t, x.by(t) ? 1 : 0, m.by(t) ? 1 : 0);
            }
            case 14: {
                int b = some(0, m.now.buyers.size() - 1);
                int o = some(0, m.now.offers.size() - 1);
                return same("worth", x.worth(b, o), m.worth(b, o)) && same("likes " + b, x.likes(b), m.likes(b));
            }
            case 15: return tellYear();
            case 16: return giftCalls();
            case 17: {
                int seed = some(0, 9999);
                int n = some(1, 10);
                return r.nextInt(3) > 0 || same("buyers", x.buyers(seed, n), m.buyers(seed, n));
            }
            case 18: return r.nextInt(3) > 0 || same("image", x.image(), m.image());
            case 19: return r.nextInt(4) > 0 || same("back", x.back(), m.back());
            case 20: return r.nextInt(3) > 0 || lookAll();
            default: return tried();
        }
    }

    private void go() {
        boolean fine = true;
        for (int i = run % 8 == 0 ? 0 : 2 + r.nextInt(3); i > 0 && fine; i--) {
            fine = tellThing() && tellMaker() && tellBuyer();
        }
        for (int i = run % 8 == 0 ? 0 : 4 + r.nextInt(12); i > 0 && fine; i--) {
            fine = offerSome() && putSome() && putSome();
        }
        fine = fine && same("image", x.image(), m.image());
        while (fine && calls < CALLS - 60) {
            fine = anyCall();
        }
    }

    public static void main(String[] args) {
        int runs = args.length > 0 ? Integer.parseInt(args[0]) : RUNS;
        for (int run = 0; run < runs && wrong < 20; run++) {
            new ModelTests(run).go();
        }
        System.out.println(wrong == 0 ? "the class and the model answer alike" : wrong + " answers are not as due");
        if (wrong != 0) {
            System.exit(1);
        }
    }
}
