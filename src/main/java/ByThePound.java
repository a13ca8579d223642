import java.util.Arrays;

/**
 * A counter at which all is priced by the pound: things, makers, buyers, offers, the texts that rule
 * them, and what would be if something were otherwise. The promises stand in ../shared/DOC.md.
 */
public final class ByThePound {
    public static final int NONE = -1;

    private static final int NO_WORTH = -1000000;
    private static final int NO_SUM = -1000000000;
    private static final int NOT_TOLD = -2;
    private static final int TEXTS = 6;
    private static final int MOST_ROUNDS = 9;

    private final Tape tape;
    private final Reader reader;
    private final Law[] laws;
    private final Law lawless;
    private final Stock stock;
    private final Stock kept;
    private final Scales scales;
    private final Market market;
    private final Trials trials;
    private final Circle circle;

    public ByThePound() {
        tape = new Tape();
        lawless = new Law();
        reader = new Reader(tape, lawless);
        laws = new Law[TEXTS];
        for (int i = 0; i < laws.length; i++) {
            laws[i] = new Law();
        }
        stock = new Stock();
        kept = new Stock();
        scales = new Scales(stock, lawless);
        market = new Market(stock, scales);
        trials = new Trials(stock, scales, market);
        circle = new Circle(stock.gifts);
    }

    public int thing(int size, int least, int most, int stuff) {
        boolean fits = within(size, 1, 99) && within(least, 1, 40) && within(most, least, 40) && within(stuff, 0, 99);
        return fits ? stock.things.add(size, least, most, stuff) : NONE;
    }

    public int maker(int hours, int crafts, int wage) {
        boolean fits = within(hours, 0, 9999) && within(crafts, 0, 1023) && within(wage, 0, 99);
        return fits ? stock.makers.add(hours, crafts, wage, 0) : NONE;
    }

    public int buyer(int many, int want, int taste, int carry) {
        boolean fits = within(many, 1, 999) && stock.things.has(want) && within(taste, 0, 99) && within(carry, 1, 99);
        return fits ? stock.buyers.add(many, want, taste, carry) : NONE;
    }

    public boolean house(int house, int percent) {
        return within(percent, 50, 150) && stock.setPercent(house, percent);
    }

    public int offer(int maker, int house) {
        boolean fits = stock.makers.has(maker) && isHouse(house);
        return fits ? stock.offers.add(maker, house, 0, 0) : NONE;
    }

    public int put(int offer, int thing, int weight, int water) {
        if (!stock.offers.has(offer) || !stock.makes(stock.offers.at(offer, Stock.MAKER), thing)) {
            return NONE;
        }
        boolean isFull = stock.itemsOf(offer) >= Stock.MOST_ITEMS;
        if (isFull || !within(weight, stock.lightest(thing), stock.heaviest(thing))) {
            return NONE;
        }
        scales.use(theLaw());
        if (!within(water, 0, scales.wetOf(thing, weight))) {
            return NONE;
        }
        return stock.tie(offer, thing, weight, water);
    }

    public int drop(int offer) {
        if (!stock.offers.has(offer)) {
            return NONE;
        }
        int had = stock.itemsOf(offer);
        stock.offers.set(offer, Stock.ITEMS, 0);
        return had;
    }

    public int feed(int a, int b, int c, int d, int e) {
        if (tape.length + 20 > Tape.ROOM) {
            return NONE;
        }
        tape.addFour(a);
        tape.addFour(b);
        tape.addFour(c);
        tape.addFour(d);
        tape.addFour(e);
        return tape.length;
    }

    public int end(int n) {
        if (!within(n, 0, tape.length)) {
            return NONE;
        }
        tape.length = n;
        return n;
    }

    public int text() {
        int number = stock.texts;
        if (!within(number, 0, laws.length - 1)) {
            return NONE;
        }
        boolean faultless = reader.read(laws[number]);
        tape.length = 0;
        if (!faultless) {
            return NONE;
        }
        stock.texts = number + 1;
        return number;
    }

    public int fault(int what) {
        if (!reader.hasRead) {
            return NONE;
        }
        switch (what) {
            case 0: return reader.fault;
            case 1: return reader.place;
            default: return NONE;
        }
    }

    public boolean by(int text) {
        if (!isTextOrNone(text)) {
            return false;
        }
        stock.theText = text;
        return true;
    }

    public int of(int offer, int what) {
        if (!stock.offers.has(offer)) {
            return NONE;
        }
        if (within(what, 10, 39)) {
            return stock.itemPart(offer, what % 10, what / 10 - 1);
        }
        scales.use(theLaw());
        market.measure(offer);
        switch (what) {
            case 0: return Table.cell(market.hours, offer);
            case 1: return Table.cell(market.price, offer);
            case 2: return Table.cell(market.cost, offer);
            case 3: return Table.cell(market.load, offer);
            case 4: return market.isLawful(offer) ? 1 : 0;
            case 5: return Table.cell(stock.latest.sold, offer);
            case 6: return stock.itemsOf(offer);
            default: return NONE;
        }
    }

    public int worth(int buyer, int offer) {
        if (!stock.buyers.has(buyer) || !stock.offers.has(offer)) {
            return NO_WORTH;
        }
        scales.use(theLaw());
        return market.worthTo(buyer, offer);
    }

    public int likes(int buyer) {
        if (!stock.buyers.has(buyer)) {
            return NONE;
        }
        market.weighAll(theLaw());
        return market.favourite(buyer, stock.offers.count, null);
    }

    public int year() {
        market.weighAll(theLaw());
        return market.run(stock.latest, stock.offers.count);
    }

    public int told(int what, int who) {
        switch (what) {
            case 0: return stock.makers.has(who) ? Table.cell(stock.latest.earned, who) : NO_SUM;
            case 1: return stock.makers.has(who) ? Table.cell(stock.latest.hours, who) : NO_SUM;
            case 2: return stock.buyers.has(who) ? Table.cell(stock.latest.lacks, who) : NO_SUM;
            case 3: return stock.buyers.has(who) ? Table.cell(stock.latest.gain, who) : NO_SUM;
            default: return NO_SUM;
        }
    }

    public int judge() {
        scales.use(theLaw());
        for (int offer = 0; offer < stock.offers.count; offer++) {
            market.measure(offer);
            boolean isBelowCost = Table.cell(market.price, offer) < Table.cell(market.cost, offer);
            if (isBelowCost && Table.cell(stock.latest.sold, offer) > 0) {
                return offer;
            }
        }
        return NONE;
    }

    public int best(int maker, int thing, int house, int what) {
        if (!stock.makes(maker, thing) || !isHouse(house) || !within(what, 0, 1)) {
            return NO_SUM;
        }
        market.weighAll(theLaw());
        int weight = trials.bestWeight(maker, thing, house);
        return what == 0 ? weight : trials.most;
    }

    public int rounds() {
        market.weighAll(theLaw());
        for (int n = 1; n <= MOST_ROUNDS; n++) {
            boolean changes = false;
            for (int offer = 0; offer < stock.offers.count; offer++) {
                for (int item = 0; item < stock.itemsOf(offer); item++) {
                    if (trials.turnItem(offer, item)) {
                        changes = true;
                    }
                }
            }
            if (!changes) {
                return n;
            }
        }
        return NONE;
    }

    public int never(int thing) {
        if (!stock.things.has(thing)) {
            return NONE;
        }
        scales.use(theLaw());
        return trials.whyNever(thing);
    }

    public int tied(int maker, int one, int other, int house) {
        if (!stock.makes(maker, one) || !stock.makes(maker, other) || one == other || !isHouse(house)) {
            return NO_SUM;
        }
        market.weighAll(theLaw());
        int weight = trials.bestWeight(maker, one, house);
        int otherWeight = trials.bestWeight(maker, other, house);
        int apart = trials.earnedApart(maker, house, one, weight, other, otherWeight);
        return trials.earnedTied(maker, one, other, house) - apart;
    }

    public int harm(int text, int what) {
        if (!isTextOrNone(text)) {
            return NO_SUM;
        }
        Law law = lawOf(text);
        switch (what) {
            case 0: return trials.could(law);
            case 1: return trials.had(law);
            case 2: return trials.could(law) - trials.had(law);
            default: return NO_SUM;
        }
    }

    public int least() {
        int lowest = NONE;
        int leastHarm = 0;
        for (int text = 0; text < stock.texts; text++) {
            Law law = lawOf(text);
            int harmDone = trials.could(law) - trials.had(law);
            if (lowest == NONE || harmDone < leastHarm) {
                lowest = text;
                leastHarm = harmDone;
            }
        }
        return lowest;
    }

    public int changed(int text, int what) {
        if (!isTextOrNone(text) || !within(what, 0, 3)) {
            return NONE;
        }
        trials.compare(theLaw(), lawOf(text));
        switch (what) {
            case 0: return trials.whoMore(trials.before.gain, trials.after.gain, stock.buyers.count);
            case 1: return trials.whoMore(trials.after.gain, trials.before.gain, stock.buyers.count);
            case 2: return trials.whoMore(trials.before.earned, trials.after.earned, stock.makers.count);
            default: return trials.whoMore(trials.after.earned, trials.before.earned, stock.makers.count);
        }
    }

    public int where(int offer) {
        if (!stock.offers.has(offer)) {
            return NONE;
        }
        market.weighAll(theLaw());
        return trials.bestHouse(offer);
    }

    public int gift(int from, int to, int worth) {
        boolean fits = isPerson(from) && isPerson(to) && from != to && within(worth, 1, 999);
        return fits ? stock.gifts.add(from, to, worth, 0) : NONE;
    }

    public int round(int who) {
        return isPerson(who) ? circle.giftsBackTo(who) : NONE;
    }

    public int net(int who) {
        if (!isPerson(who)) {
            return NO_WORTH;
        }
        circle.bringAll();
        return Table.cell(circle.nets, who);
    }

    public int steady() {
        return circle.takenTillSteady();
    }

    public int buyers(int seed, int n) {
        if (!within(seed, 0, 9999) || !within(n, 1, Stock.BUYERS) || stock.things.count < 1) {
            return NONE;
        }
        return stock.drawBuyers(seed, n);
    }

    public int image() {
        kept.become(stock);
        return stock.offers.count;
    }

    public int back() {
        stock.become(kept);
        return stock.offers.count;
    }

    public int about(int what) {
        if (within(what, 100, 139)) {
            int buyer = what % 10;
            return stock.buyers.has(buyer) ? stock.buyers.at(buyer, what / 10 - 10) : NOT_TOLD;
        }
        if (within(what, 10, 10 + Stock.HOUSES - 1)) {
            return stock.percentOf(what - 10);
        }
        switch (what) {
            case 0: return stock.things.count;
            case 1: return stock.makers.count;
            case 2: return stock.buyers.count;
            case 3: return stock.offers.count;
            case 4: return stock.texts;
            case 5: return stock.theText;
            case 6: return stock.gifts.count;
            case 7: return tape.length;
            default: return NOT_TOLD;
        }
    }

    private static boolean within(int value, int lowest, int highest) {
        return value >= lowest && value <= highest;
    }

    private static boolean isHouse(int house) {
        return within(house, 0, Stock.HOUSES - 1);
    }

    private static boolean isPerson(int who) {
        return within(who, 0, Circle.PEOPLE - 1);
    }

    private boolean isTextOrNone(int text) {
        return within(text, NONE, stock.texts - 1);
    }

    private Law theLaw() {
        return lawOf(stock.theText);
    }

    private Law lawOf(int text) {
        return text >= 0 && text < laws.length ? laws[text] : lawless;
    }

    /** Rows of numbers that are told one by one. Rows behind the limit are room for what is only tried. */
    private static final class Table {
        final int limit;
        final int rows;
        final int columns;
        final int[] cells;
        int count;

        Table(int limit, int spare, int columns) {
            this.limit = limit;
            this.rows = limit + spare;
            this.columns = columns;
            this.cells = new int[Math.max(0, rows * columns)];
        }

        boolean has(int row) {
            return row >= 0 && row < count;
        }

        /** The number of a new row, or NONE if there are as many as there can be. */
        int add(int first, int second, int third, int fourth) {
            if (count >= limit) {
                return NONE;
            }
            int row = count;
            set(row, 0, first);
            set(row, 1, second);
            set(row, 2, third);
            set(row, 3, fourth);
            count++;
            return row;
        }

        int at(int row, int column) {
            boolean inside = row >= 0 && row < rows && column >= 0 && column < columns;
            return inside ? cells[row * columns + column] : 0;
        }

        void set(int row, int column, int value) {
            boolean inside = row >= 0 && row < rows && column >= 0 && column < columns;
            if (inside) {
                cells[row * columns + column] = value;
            }
        }

        void become(Table from) {
            count = from.count;
            copyOver(from.cells, cells);
        }

        /** What stands at a place of a row, 0 beside it. */
        static int cell(int[] row, int place) {
            return place >= 0 && place < row.length ? row[place] : 0;
        }

        static void raise(int[] row, int place, int more) {
            if (place >= 0 && place < row.length) {
                row[place] += more;
            }
        }

        static void copyOver(int[] from, int[] to) {
            System.arraycopy(from, 0, to, 0, Math.min(from.length, to.length));
        }
    }

    /** What is told of one year. */
    private static final class Year {
        final int[] sold = new int[Stock.OFFERS + Stock.TRIED];
        final int[] earned = new int[Stock.MAKERS];
        final int[] hours = new int[Stock.MAKERS];
        final int[] lacks = new int[Stock.BUYERS];
        final int[] gain = new int[Stock.BUYERS];

        void clear() {
            Arrays.fill(sold, 0);
            Arrays.fill(earned, 0);
            Arrays.fill(hours, 0);
            forgetBuyers();
        }

        void forgetBuyers() {
            Arrays.fill(lacks, 0);
            Arrays.fill(gain, 0);
        }

        void become(Year from) {
            Table.copyOver(from.sold, sold);
            Table.copyOver(from.earned, earned);
            Table.copyOver(from.hours, hours);
            Table.copyOver(from.lacks, lacks);
            Table.copyOver(from.gain, gain);
        }
    }

    /** All that the image keeps. The texts themselves never change once told, so their number is enough. */
    private static final class Stock {
        static final int MAKERS = 6;
        static final int BUYERS = 10;
        static final int HOUSES = 4;
        static final int OFFERS = 20;
        static final int TRIED = 2;
        static final int MOST_ITEMS = 3;

        static final int SIZE = 0;
        static final int LEAST = 1;
        static final int MOST = 2;
        static final int STUFF = 3;

        static final int HOURS = 0;
        static final int CRAFTS = 1;
        static final int WAGE = 2;

        static final int MANY = 0;
        static final int WANT = 1;
        static final int TASTE = 2;
        static final int CARRY = 3;

        static final int MAKER = 0;
        static final int HOUSE = 1;
        static final int ITEMS = 2;
        static final int PARTS = 3;
        static final int THING = 0;
        static final int WEIGHT = 1;
        static final int WATER = 2;

        static final int GIVER = 0;
        static final int GETTER = 1;
        static final int VALUE = 2;

        final Table things = new Table(10, 0, 4);
        final Table makers = new Table(MAKERS, 0, 4);
        final Table buyers = new Table(BUYERS, 0, 4);
        final Table offers = new Table(OFFERS, TRIED, PARTS + 3 * MOST_ITEMS);
        final Table gifts = new Table(30, 0, 4);
        final int[] percents = new int[HOUSES];
        final Year latest = new Year();
        int texts;
        int theText = NONE;

        Stock() {
            Arrays.fill(percents, 100);
        }

        void become(Stock from) {
            things.become(from.things);
            makers.become(from.makers);
            buyers.become(from.buyers);
            offers.become(from.offers);
            gifts.become(from.gifts);
            Table.copyOver(from.percents, percents);
            latest.become(from.latest);
            texts = from.texts;
            theText = from.theText;
        }

        int percentOf(int house) {
            return house >= 0 && house < percents.length ? percents[house] : 100;
        }

        boolean setPercent(int house, int percent) {
            if (house < 0 || house >= percents.length) {
                return false;
            }
            percents[house] = percent;
            return true;
        }

        /** Whether the thing is told and one of the maker's crafts. */
        boolean makes(int maker, int thing) {
            return makers.has(maker) && things.has(thing) && (makers.at(maker, CRAFTS) >> thing & 1) == 1;
        }

        int lightest(int thing) {
            return things.at(thing, LEAST);
        }

        int heaviest(int thing) {
            return things.at(thing, MOST);
        }

        int itemsOf(int offer) {
            return Math.max(0, Math.min(MOST_ITEMS, offers.at(offer, ITEMS)));
        }

        int part(int offer, int item, int part) {
            return offers.at(offer, PARTS + 3 * item + part);
        }

        int itemPart(int offer, int item, int part) {
            return item >= 0 && item < itemsOf(offer) ? part(offer, item, part) : NONE;
        }

        void reweigh(int offer, int item, int weight) {
            offers.set(offer, PARTS + 3 * item + WEIGHT, weight);
        }

        /** Makes the row an offer without items, in the spare rows too. */
        void lay(int row, int maker, int house) {
            offers.set(row, MAKER, maker);
            offers.set(row, HOUSE, house);
            offers.set(row, ITEMS, 0);
        }

        /** One item more of the row: how many it has. */
        int tie(int row, int thing, int weight, int water) {
            int item = itemsOf(row);
            if (item >= MOST_ITEMS) {
                return item;
            }
            offers.set(row, PARTS + 3 * item + THING, thing);
            offers.set(row, PARTS + 3 * item + WEIGHT, weight);
            offers.set(row, PARTS + 3 * item + WATER, water);
            offers.set(row, ITEMS, item + 1);
            return item + 1;
        }

        /** New buyers in the place of all: how many people they are. They were in no year, so none is told of them. */
        int drawBuyers(int seed, int n) {
            int wants = Math.max(1, things.count);
            int x = seed * 9 + 5;
            int people = 0;
            buyers.count = 0;
            latest.forgetBuyers();
            for (int i = 0; i < n; i++) {
                int many = 1 + x % 40;
                x = drawn(x);
                int want = x % wants;
                x = drawn(x);
                int taste = x % 100;
                x = drawn(x);
                int carry = 1 + x % 99;
                x = drawn(x);
                buyers.add(many, want, taste, carry);
                people += many;
            }
            return people;
        }

        private static int drawn(int x) {
            return (x * 211 + 29) % 30071;
        }
    }

    /** The bytes that were fed, and the tokens that they are cut into. */
    private static final class Tape {
        static final int ROOM = 300;

        static final int PRICE = 0;
        static final int HOURS = 1;
        static final int WORTH = 2;
        static final int WET = 3;
        static final int BARS = 4;
        static final int FIRST_NAME = 5;
        static final int TASTE = 9;
        static final int LAST_NAME = 10;
        static final int OR = 11;
        static final int AND = 12;
        static final int NOT = 13;
        static final int BAD = 14;
        static final int NUMBER = 15;
        static final int END = 16;
        static final int UNLIKE = 20;
        static final int SAME = 21;
        static final int LESS = 22;
        static final int MORE = 23;
        static final int PLUS = 24;
        static final int MINUS = 25;
        static final int TIMES = 26;
        static final int OVER = 27;
        static final int OPEN = 28;
        static final int SHUT = 29;
        static final int ENDS = 30;
        static final int NOT_MORE = 31;
        static final int NOT_LESS = 32;
        static final int NEGATE = 33;

        static final int TOO_MUCH = 10000;

        /** A word's kind is its place here, a sign's kind is UNLIKE and its place. */
        private static final String WORDS = "price hours worth wet bars thing weight size tied taste want or and not";
        private static final String SIGNS = "#=<>+-*/();";

        final int[] bytes = new int[ROOM];
        final int[] kinds = new int[ROOM + 1];
        final int[] places = new int[ROOM + 1];
        final int[] numbers = new int[ROOM + 1];
        int length;
        int tokens;

        void addFour(int word) {
            for (int shift = 24; shift >= 0; shift -= 8) {
                if (length < bytes.length) {
                    bytes[length] = word >> shift & 255;
                    length++;
                }
            }
        }

        void cut() {
            tokens = 0;
            int i = 0;
            while (i < length) {
                i = Math.max(i + 1, cutOne(i));
            }
            keep(END, length, 0);
        }

        /** Where what begins at i ends. */
        private int cutOne(int i) {
            int c = byteAt(i);
            if (c == ' ' || c == '\n') {
                return i + 1;
            }
            if (isLetter(c)) {
                int stop = i + 1;
                while (stop < length && isLetter(byteAt(stop))) {
                    stop++;
                }
                keep(wordKind(i, stop), i, 0);
                return stop;
            }
            if (isDigit(c)) {
                return cutNumber(i);
            }
            boolean withSame = (c == '<' || c == '>') && byteAt(i + 1) == '=';
            if (withSame) {
                keep(c == '<' ? NOT_MORE : NOT_LESS, i, 0);
                return i + 2;
            }
            int sign = SIGNS.indexOf((char) c);
            keep(sign >= 0 ? UNLIKE + sign : BAD, i, 0);
            return i + 1;
        }

        private int cutNumber(int i) {
            int number = 0;
            int stop = i;
            while (stop < length && isDigit(byteAt(stop))) {
                number = Math.min(TOO_MUCH, number * 10 + byteAt(stop) - '0');
                stop++;
            }
            keep(NUMBER, i, number);
            return stop;
        }

        private void keep(int kind, int place, int number) {
            if (tokens < kinds.length) {
                kinds[tokens] = kind;
                places[tokens] = place;
                numbers[tokens] = number;
                tokens++;
            }
        }

        private int wordKind(int from, int to) {
            int kind = 0;
            int start = 0;
            for (int i = 0; i <= WORDS.length(); i++) {
                if (i == WORDS.length() || WORDS.charAt(i) == ' ') {
                    if (i - start == to - from && isSame(start, from, i - start)) {
                        return kind;
                    }
                    kind++;
                    start = i + 1;
                }
            }
            return BAD;
        }

        private boolean isSame(int start, int from, int size) {
            for (int i = 0; i < size; i++) {
                if (WORDS.charAt(start + i) != byteAt(from + i)) {
                    return false;
                }
            }
            return true;
        }

        private int byteAt(int i) {
            return i >= 0 && i < length && i < bytes.length ? bytes[i] : 0;
        }

        private static boolean isLetter(int c) {
            return c >= 'a' && c <= 'z' || c >= 'A' && c <= 'Z';
        }

        private static boolean isDigit(int c) {
            return c >= '0' && c <= '9';
        }
    }

    /** A text that was read: its clauses as codes, each behind its operands; a number is itself, else a token's kind with a minus. */
    private static final class Law {
        static final int CLAUSES = 10;

        final int[] codes = new int[Tape.ROOM];
        final int[] kinds = new int[CLAUSES];
        final int[] starts = new int[CLAUSES];
        final int[] stops = new int[CLAUSES];
        int length;
        int clauses;

        void clear() {
            length = 0;
            clauses = 0;
        }

        /** The number of the clause of this kind, or NONE. */
        int find(int kind) {
            for (int i = 0; i < clauses && i < kinds.length; i++) {
                if (kinds[i] == kind) {
                    return i;
                }
            }
            return NONE;
        }

        void open(int kind) {
            if (clauses < kinds.length) {
                kinds[clauses] = kind;
                starts[clauses] = length;
                stops[clauses] = length;
                clauses++;
            }
        }

        void shut() {
            if (clauses > 0 && clauses <= stops.length) {
                stops[clauses - 1] = length;
            }
        }

        void write(int code) {
            if (length < codes.length) {
                codes[length] = code;
                length++;
            }
        }
    }

    /** Reads a tape into a law, or finds its first fault. */
    private static final class Reader {
        private static final int DEEPEST = 8;

        boolean hasRead;
        int fault;
        int place;

        private final Tape tape;
        private Law law;
        private int token;
        private int clause;

        Reader(Tape tape, Law law) {
            this.tape = tape;
            this.law = law;
        }

        boolean read(Law into) {
            law = into;
            token = 0;
            hasRead = true;
            fault = 0;
            place = NONE;
            tape.cut();
            law.clear();
            for (int i = 0; i <= Law.CLAUSES; i++) {
                if (kind() == Tape.END) {
                    return true;
                }
                if (!readClause()) {
                    return false;
                }
            }
            return false;
        }

        private int kind() {
            return token >= 0 && token < tape.tokens && token < tape.kinds.length ? tape.kinds[token] : Tape.END;
        }

        private int number() {
            return token >= 0 && token < tape.numbers.length ? tape.numbers[token] : 0;
        }

        private boolean fail(int what) {
            fault = what;
            place = token >= 0 && token < tape.places.length ? tape.places[token] : tape.length;
            return false;
        }

        private boolean readClause() {
            clause = kind();
            if (clause > Tape.BARS) {
                return fail(1);
            }
            if (clause != Tape.BARS && law.find(clause) != NONE) {
                return fail(4);
            }
            if (law.clauses >= Law.CLAUSES) {
                return fail(6);
            }
            law.open(clause);
            token++;
            boolean faultless = clause == Tape.BARS ? readEither() : readSum(0);
            if (!faultless) {
                return false;
            }
            if (kind() != Tape.ENDS) {
                return fail(1);
            }
            law.shut();
            token++;
            return true;
        }

        /** Each turn reads a BOTH; there are fewer of them than bytes. */
        private boolean readEither() {
            for (int i = 0; i < Tape.ROOM; i++) {
                if (!readAsk(0)) {
                    return false;
                }
                for (int j = 0; j < Tape.ROOM && kind() == Tape.AND; j++) {
                    token++;
                    if (!readAsk(0)) {
                        return false;
                    }
                    law.write(-Tape.AND);
                }
                if (i > 0) {
                    law.write(-Tape.OR);
                }
                if (kind() != Tape.OR) {
                    return true;
                }
                token++;
            }
            return fail(1);
        }

        private boolean readAsk(int depth) {
            if (kind() == Tape.NOT) {
                if (depth >= DEEPEST) {
                    return fail(3);
                }
                token++;
                if (!readAsk(depth + 1)) {
                    return false;
                }
                law.write(-Tape.NOT);
                return true;
            }
            if (!readSum(depth)) {
                return false;
            }
            int compared = kind();
            if (!compares(compared)) {
                return fail(1);
            }
            token++;
            if (!readSum(depth)) {
                return false;
            }
            law.write(-compared);
            return true;
        }

        private static boolean compares(int kind) {
            return kind >= Tape.UNLIKE && kind <= Tape.MORE || kind == Tape.NOT_MORE || kind == Tape.NOT_LESS;
        }

        private boolean readSum(int depth) {
            if (!readProduct(depth)) {
                return false;
            }
            for (int i = 0; i < Tape.ROOM && (kind() == Tape.PLUS || kind() == Tape.MINUS); i++) {
                int sign = kind();
                token++;
                if (!readProduct(depth)) {
                    return false;
                }
                law.write(-sign);
            }
            return true;
        }

        private boolean readProduct(int depth) {
            if (!readOne(depth)) {
                return false;
            }
            for (int i = 0; i < Tape.ROOM && (kind() == Tape.TIMES || kind() == Tape.OVER); i++) {
                int sign = kind();
                token++;
                if (!readOne(depth)) {
                    return false;
                }
                law.write(-sign);
            }
            return true;
        }

        private boolean readOne(int depth) {
            int kind = kind();
            if (kind == Tape.NUMBER) {
                if (number() >= Tape.TOO_MUCH) {
                    return fail(2);
                }
                law.write(number());
                token++;
                return true;
            }
            if (kind >= Tape.FIRST_NAME && kind <= Tape.LAST_NAME) {
                if (kind >= Tape.TASTE && clause != Tape.WORTH) {
                    return fail(5);
                }
                law.write(-kind);
                token++;
                return true;
            }
            if (kind != Tape.OPEN && kind != Tape.MINUS) {
                return fail(1);
            }
            if (depth >= DEEPEST) {
                return fail(3);
            }
            token++;
            if (kind == Tape.MINUS) {
                if (!readOne(depth + 1)) {
                    return false;
                }
                law.write(-Tape.NEGATE);
                return true;
            }
            if (!readSum(depth + 1)) {
                return false;
            }
            if (kind() != Tape.SHUT) {
                return fail(1);
            }
            token++;
            return true;
        }
    }

    /** What a law says of one item. */
    private static final class Scales {
        private static final int FAR = 1000000;

        private final Stock stock;
        private final int[] names = new int[Tape.LAST_NAME - Tape.FIRST_NAME + 1];
        private final int[] pile = new int[Tape.ROOM];
        private Law law;

        Scales(Stock stock, Law law) {
            this.stock = stock;
            this.law = law;
        }

        void use(Law other) {
            law = other;
        }

        int wetOf(int thing, int weight) {
            int clause = law.find(Tape.WET);
            return clause == NONE ? 0 : Math.max(0, Math.min(9, itemValue(clause, thing, weight, 1)));
        }

        int hoursOf(int thing, int weight, int tied) {
            int clause = law.find(Tape.HOURS);
            return clause == NONE ? 1 + weight / 4 : Math.max(1, Math.min(999, itemValue(clause, thing, weight, tied)));
        }

        int priceOf(int thing, int weighed, int tied) {
            int clause = law.find(Tape.PRICE);
            return clause == NONE ? weighed : Math.max(0, Math.min(9999, itemValue(clause, thing, weighed, tied)));
        }

        boolean isBarred(int thing, int weighed, int tied) {
            for (int i = 0; i < law.clauses; i++) {
                if (Table.cell(law.kinds, i) == Tape.BARS && itemValue(i, thing, weighed, tied) != 0) {
                    return true;
                }
            }
            return false;
        }

        int worthTo(int buyer, int thing, int weight, int tied) {
            int taste = stock.buyers.at(buyer, Stock.TASTE);
            int want = stock.buyers.at(buyer, Stock.WANT) == thing ? 1 : 0;
            int clause = law.find(Tape.WORTH);
            if (clause == NONE) {
                return taste * want;
            }
            names[4] = taste;
            names[5] = want;
            return Math.max(-9999, Math.min(9999, itemValue(clause, thing, weight, tied)));
        }

        /** The clause's value, weight being WEIGHED or WEIGHT as the clause has it. */
        private int itemValue(int clause, int thing, int weight, int tied) {
            names[0] = thing;
            names[1] = weight;
            names[2] = stock.things.at(thing, Stock.SIZE);
            names[3] = tied;
            int top = 0;
            int stop = Table.cell(law.stops, clause);
            for (int i = Table.cell(law.starts, clause); i < stop; i++) {
                int code = Table.cell(law.codes, i);
                if (code > -Tape.OR) {
                    if (top < pile.length) {
                        pile[top] = operand(code);
                        top++;
                    }
                } else if (code == -Tape.NOT || code == -Tape.NEGATE) {
                    if (top > 0) {
                        pile[top - 1] = code == -Tape.NOT ? 1 - pile[top - 1] : -pile[top - 1];
                    }
                } else if (top > 1) {
                    top--;
                    pile[top - 1] = cut(join(-code, pile[top - 1], pile[top]));
                }
            }
            return top > 0 ? pile[0] : 0;
        }

        private int operand(int code) {
            int name = -code - Tape.FIRST_NAME;
            return name >= 0 && name < names.length ? names[name] : code;
        }

        private static long join(int kind, int a, int b) {
            switch (kind) {
                case Tape.PLUS: return (long) a + b;
                case Tape.MINUS: return (long) a - b;
                case Tape.TIMES: return (long) a * b;
                case Tape.OVER: return b == 0 ? 0 : a / b;
                case Tape.LESS: return a < b ? 1 : 0;
                case Tape.MORE: return a > b ? 1 : 0;
                case Tape.NOT_MORE: return a <= b ? 1 : 0;
                case Tape.NOT_LESS: return a >= b ? 1 : 0;
                case Tape.SAME: return a == b ? 1 : 0;
                case Tape.UNLIKE: return a != b ? 1 : 0;
                case Tape.AND: return a & b;
                case Tape.OR: return a | b;
                default: return 0;
            }
        }

        private static int cut(long value) {
            return value > FAR ? FAR : value < -FAR ? -FAR : (int) value;
        }
    }

    /** The offers as they are weighed, and the years in which they are sold. */
    private static final class Market {
        private static final int UNLIKED = -1;

        final int[] hours = new int[Stock.OFFERS + Stock.TRIED];
        final int[] price = new int[Stock.OFFERS + Stock.TRIED];
        final int[] cost = new int[Stock.OFFERS + Stock.TRIED];
        final int[] load = new int[Stock.OFFERS + Stock.TRIED];
        final boolean[] lawful = new boolean[Stock.OFFERS + Stock.TRIED];
        private final int[] maker = new int[Stock.OFFERS + Stock.TRIED];
        /** How far WORTH is over PRICE, or UNLIKED. */
        private final int[][] over = new int[Stock.BUYERS][Stock.OFFERS + Stock.TRIED];

        private final Stock stock;
        private final Scales scales;

        Market(Stock stock, Scales scales) {
            this.stock = stock;
            this.scales = scales;
        }

        void weighAll(Law law) {
            scales.use(law);
            for (int offer = 0; offer < stock.offers.count; offer++) {
                weigh(offer);
            }
        }

        /** All that a year needs to know of an offer; it stands till the offer is weighed again. */
        void weigh(int offer) {
            if (!isRow(offer)) {
                return;
            }
            measure(offer);
            boolean isOffered = stock.itemsOf(offer) > 0 && lawful[offer];
            for (int buyer = 0; buyer < stock.buyers.count && buyer < over.length; buyer++) {
                boolean canTake = isOffered && load[offer] <= stock.buyers.at(buyer, Stock.CARRY);
                over[buyer][offer] = canTake ? Math.max(UNLIKED, worthTo(buyer, offer) - price[offer]) : UNLIKED;
            }
        }

        void measure(int offer) {
            if (!isRow(offer)) {
                return;
            }
            int tied = stock.itemsOf(offer);
            int by = stock.offers.at(offer, Stock.MAKER);
            int percent = stock.percentOf(stock.offers.at(offer, Stock.HOUSE));
            int wage = stock.makers.at(by, Stock.WAGE);
            maker[offer] = by;
            hours[offer] = 0;
            price[offer] = 0;
            cost[offer] = 0;
            load[offer] = 0;
            lawful[offer] = true;
            for (int item = 0; item < tied; item++) {
                int thing = stock.part(offer, item, Stock.THING);
                int weight = stock.part(offer, item, Stock.WEIGHT);
                int wet = weight + stock.part(offer, item, Stock.WATER);
                int weighed = wet * percent / 100;
                int needed = scales.hoursOf(thing, weight, tied);
                hours[offer] += needed;
                price[offer] += scales.priceOf(thing, weighed, tied);
                cost[offer] += needed * wage + stock.things.at(thing, Stock.STUFF) * weight;
                load[offer] += wet;
                if (scales.isBarred(thing, weighed, tied)) {
                    lawful[offer] = false;
                }
            }
        }

        private boolean isRow(int offer) {
            return offer >= 0 && offer < hours.length;
        }

        boolean isLawful(int offer) {
            return isRow(offer) && lawful[offer];
        }

        int worthTo(int buyer, int offer) {
            int tied = stock.itemsOf(offer);
            int worth = 0;
            for (int item = 0; item < tied; item++) {
                int thing = stock.part(offer, item, Stock.THING);
                worth += scales.worthTo(buyer, thing, stock.part(offer, item, Stock.WEIGHT), tied);
            }
            return worth;
        }

        /** How far WORTH is over PRICE, as the offer was weighed last. */
        private int overTo(int buyer, int offer) {
            boolean inside = buyer >= 0 && buyer < over.length && offer >= 0 && offer < over[buyer].length;
            return inside ? over[buyer][offer] : UNLIKED;
        }

        boolean isLiked(int offer) {
            for (int buyer = 0; buyer < stock.buyers.count; buyer++) {
                if (overTo(buyer, offer) > UNLIKED) {
                    return true;
                }
            }
            return false;
        }

        /** The offer that the buyer likes best of those that can still be had in the year; of all without one. */
        int favourite(int buyer, int offers, Year year) {
            int best = NONE;
            int most = UNLIKED;
            for (int offer = 0; offer < offers; offer++) {
                int here = overTo(buyer, offer);
                if (here > most && (year == null || canBeHad(offer, year))) {
                    best = offer;
                    most = here;
                }
            }
            return best;
        }

        private boolean canBeHad(int offer, Year year) {
            return Table.cell(year.hours, Table.cell(maker, offer)) >= Table.cell(hours, offer);
        }

        /** A year of the first offers, as they were weighed last: how many were sold. */
        int run(Year year, int offers) {
            year.clear();
            for (int by = 0; by < stock.makers.count; by++) {
                Table.raise(year.hours, by, stock.makers.at(by, Stock.HOURS));
            }
            int sold = 0;
            for (int buyer = 0; buyer < stock.buyers.count; buyer++) {
                int many = stock.buyers.at(buyer, Stock.MANY);
                int left = serve(buyer, many, offers, year);
                Table.raise(year.lacks, buyer, left);
                sold += many - left;
            }
            return sold;
        }

        /** How many are left when the buyer has taken all that can be had; each turn but the last uses up an offer. */
        private int serve(int buyer, int many, int offers, Year year) {
            int left = many;
            for (int turn = 0; turn < offers && left > 0; turn++) {
                int offer = favourite(buyer, offers, year);
                if (offer == NONE) {
                    return left;
                }
                int by = Table.cell(maker, offer);
                int needed = Math.max(1, Table.cell(hours, offer));
                int taken = Math.min(left, Table.cell(year.hours, by) / needed);
                int earned = Table.cell(price, offer) - Table.cell(cost, offer);
                left -= taken;
                Table.raise(year.hours, by, -taken * needed);
                Table.raise(year.sold, offer, taken);
                Table.raise(year.earned, by, taken * earned);
                Table.raise(year.gain, buyer, taken * overTo(buyer, offer));
            }
            return left;
        }
    }

    /** What would be if something were otherwise: years by which nothing changes. */
    private static final class Trials {
        final Year before = new Year();
        final Year after = new Year();
        int most;

        private final Stock stock;
        private final Scales scales;
        private final Market market;
        private final int[] greatest = new int[Stock.BUYERS];

        Trials(Stock stock, Scales scales, Market market) {
            this.stock = stock;
            this.scales = scales;
            this.market = market;
        }

        /** What the maker earns in a year of the first offers, when the one offer is weighed anew. */
        private int earnedWith(int offer, int offers, int maker) {
            market.weigh(offer);
            market.run(after, offers);
            return Table.cell(after.earned, maker);
        }

        private void layOne(int row, int maker, int house, int thing) {
            stock.lay(row, maker, house);
            stock.tie(row, thing, stock.lightest(thing), 0);
        }

        /** The best weight of a thing in a new offer behind all; what he earns by it stands in most. */
        int bestWeight(int maker, int thing, int house) {
            int row = stock.offers.count;
            int best = NONE;
            layOne(row, maker, house, thing);
            for (int weight = stock.lightest(thing); weight <= stock.heaviest(thing); weight++) {
                stock.reweigh(row, 0, weight);
                int earned = earnedWith(row, row + 1, maker);
                if (best == NONE || earned > most) {
                    best = weight;
                    most = earned;
                }
            }
            return best;
        }

        int earnedApart(int maker, int house, int one, int weight, int other, int otherWeight) {
            int row = stock.offers.count;
            layOne(row, maker, house, one);
            stock.reweigh(row, 0, weight);
            market.weigh(row);
            layOne(row + 1, maker, house, other);
            stock.reweigh(row + 1, 0, otherWeight);
            return earnedWith(row + 1, row + 2, maker);
        }

        int earnedTied(int maker, int one, int other, int house) {
            int row = stock.offers.count;
            boolean tried = false;
            layOne(row, maker, house, one);
            stock.tie(row, other, stock.lightest(other), 0);
            for (int weight = stock.lightest(one); weight <= stock.heaviest(one); weight++) {
                stock.reweigh(row, 0, weight);
                for (int second = stock.lightest(other); second <= stock.heaviest(other); second++) {
                    stock.reweigh(row, 1, second);
                    int earned = earnedWith(row, row + 1, maker);
                    if (!tried || earned > most) {
                        tried = true;
                        most = earned;
                    }
                }
            }
            return most;
        }

        /** One item's turn: whether its weight changed. */
        boolean turnItem(int offer, int item) {
            int offers = stock.offers.count;
            int maker = stock.offers.at(offer, Stock.MAKER);
            int thing = stock.part(offer, item, Stock.THING);
            int was = stock.part(offer, item, Stock.WEIGHT);
            int best = was;
            most = earnedWith(offer, offers, maker);
            for (int weight = stock.lightest(thing); weight <= stock.heaviest(thing); weight++) {
                stock.reweigh(offer, item, weight);
                int earned = earnedWith(offer, offers, maker);
                if (earned > most) {
                    best = weight;
                    most = earned;
                }
            }
            stock.reweigh(offer, item, best);
            market.weigh(offer);
            return best != was;
        }

        int whyNever(int thing) {
            boolean isCraft = false;
            boolean isLiked = false;
            for (int maker = 0; maker < stock.makers.count; maker++) {
                if (stock.makes(maker, thing)) {
                    isCraft = true;
                    for (int house = 0; house < Stock.HOUSES; house++) {
                        int reason = whyNeverAt(maker, thing, house);
                        if (reason == 0) {
                            return 0;
                        }
                        if (reason == 3) {
                            isLiked = true;
                        }
                    }
                }
            }
            return !isCraft ? 1 : isLiked ? 3 : 2;
        }

        private int whyNeverAt(int maker, int thing, int house) {
            int row = stock.offers.count;
            int reason = 2;
            layOne(row, maker, house, thing);
            for (int weight = stock.lightest(thing); weight <= stock.heaviest(thing); weight++) {
                stock.reweigh(row, 0, weight);
                market.weigh(row);
                if (market.isLiked(row)) {
                    if (Table.cell(market.price, row) >= Table.cell(market.cost, row)) {
                        return 0;
                    }
                    reason = 3;
                }
            }
            return reason;
        }

        int could(Law law) {
            scales.use(law);
            Arrays.fill(greatest, 0);
            for (int thing = 0; thing < stock.things.count; thing++) {
                int wage = lowestWage(thing);
                if (wage != NONE) {
                    for (int weight = stock.lightest(thing); weight <= stock.heaviest(thing); weight++) {
                        raiseGreatest(thing, weight, wage);
                    }
                }
            }
            int sum = 0;
            for (int buyer = 0; buyer < stock.buyers.count; buyer++) {
                sum += stock.buyers.at(buyer, Stock.MANY) * Table.cell(greatest, buyer);
            }
            return sum;
        }

        /** The makers of a thing differ by wage alone, so the one of the lowest wage makes it at the least cost. */
        private int lowestWage(int thing) {
            int lowest = NONE;
            for (int maker = 0; maker < stock.makers.count; maker++) {
                int wage = stock.makers.at(maker, Stock.WAGE);
                if (stock.makes(maker, thing) && (lowest == NONE || wage < lowest)) {
                    lowest = wage;
                }
            }
            return lowest;
        }

        private void raiseGreatest(int thing, int weight, int wage) {
            int cost = scales.hoursOf(thing, weight, 1) * wage + stock.things.at(thing, Stock.STUFF) * weight;
            for (int buyer = 0; buyer < stock.buyers.count && buyer < greatest.length; buyer++) {
                if (weight <= stock.buyers.at(buyer, Stock.CARRY)) {
                    greatest[buyer] = Math.max(greatest[buyer], scales.worthTo(buyer, thing, weight, 1) - cost);
                }
            }
        }

        int had(Law law) {
            market.weighAll(law);
            market.run(after, stock.offers.count);
            int sum = 0;
            for (int i = 0; i < after.gain.length; i++) {
                sum += after.gain[i];
            }
            for (int i = 0; i < after.earned.length; i++) {
                sum += after.earned[i];
            }
            return sum;
        }

        /** A year by each of two laws. */
        void compare(Law now, Law then) {
            market.weighAll(now);
            market.run(before, stock.offers.count);
            market.weighAll(then);
            market.run(after, stock.offers.count);
        }

        /** The bits of those of whom the second row has more. */
        int whoMore(int[] first, int[] second, int count) {
            int bits = 0;
            for (int i = 0; i < count && i < first.length && i < second.length; i++) {
                if (second[i] > first[i]) {
                    bits |= 1 << i;
                }
            }
            return bits;
        }

        int bestHouse(int offer) {
            int offers = stock.offers.count;
            int maker = stock.offers.at(offer, Stock.MAKER);
            int was = stock.offers.at(offer, Stock.HOUSE);
            int best = NONE;
            for (int house = 0; house < Stock.HOUSES; house++) {
                stock.offers.set(offer, Stock.HOUSE, house);
                int earned = earnedWith(offer, offers, maker);
                if (best == NONE || earned > most) {
                    best = house;
                    most = earned;
                }
            }
            stock.offers.set(offer, Stock.HOUSE, was);
            return best;
        }
    }

    /** The gifts that go round among the people. */
    private static final class Circle {
        static final int PEOPLE = 8;

        final int[] nets = new int[PEOPLE];

        private final Table gifts;
        private final boolean[] isThere;

        Circle(Table gifts) {
            this.gifts = gifts;
            this.isThere = new boolean[Math.max(0, gifts.limit)];
        }

        /** All gifts are there, and each one's net is by all of them. */
        void bringAll() {
            Arrays.fill(nets, 0);
            for (int gift = 0; gift < gifts.count && gift < isThere.length; gift++) {
                isThere[gift] = true;
                addNets(gift, gifts.at(gift, Stock.VALUE));
            }
        }

        private void addNets(int gift, int value) {
            Table.raise(nets, gifts.at(gift, Stock.GIVER), -value);
            Table.raise(nets, gifts.at(gift, Stock.GETTER), value);
        }

        /** The fewest gifts from one to himself: who has something after each step, as bits. */
        int giftsBackTo(int who) {
            int holders = 1 << who;
            for (int step = 1; step <= PEOPLE; step++) {
                int next = 0;
                for (int gift = 0; gift < gifts.count; gift++) {
                    if ((holders >> gifts.at(gift, Stock.GIVER) & 1) == 1) {
                        next |= 1 << gifts.at(gift, Stock.GETTER);
                    }
                }
                if ((next >> who & 1) == 1) {
                    return step;
                }
                holders = next;
            }
            return NONE;
        }

        int takenTillSteady() {
            bringAll();
            for (int taken = 0; taken < gifts.count; taken++) {
                int poorest = poorest();
                if (Table.cell(nets, poorest) >= 0) {
                    return taken;
                }
                takeAway(dearestOf(poorest));
            }
            return gifts.count;
        }

        private int poorest() {
            int poorest = 0;
            for (int who = 1; who < PEOPLE; who++) {
                if (Table.cell(nets, who) < Table.cell(nets, poorest)) {
                    poorest = who;
                }
            }
            return poorest;
        }

        private int dearestOf(int giver) {
            int dearest = NONE;
            int most = 0;
            for (int gift = 0; gift < gifts.count && gift < isThere.length; gift++) {
                int value = gifts.at(gift, Stock.VALUE);
                if (isThere[gift] && gifts.at(gift, Stock.GIVER) == giver && value > most) {
                    dearest = gift;
                    most = value;
                }
            }
            return dearest;
        }

        private void takeAway(int gift) {
            if (gift >= 0 && gift < isThere.length) {
                isThere[gift] = false;
                addNets(gift, -gifts.at(gift, Stock.VALUE));
            }
        }
    }
}
