/** Each promise by itself, with answers worked out by hand from the document. */
public final class PromiseTests {
    private static final int NO_SUM = -1000000000;
    private static final int NO_WORTH = -1000000;

    private static int wrong = 0;
    private static String part = "";

    private static void due(String call, long got, long want) {
        if (got != want) {
            wrong++;
            System.out.println(part + ": " + call + " answered " + got + ", due is " + want);
        }
    }

    private static void due(String call, boolean got, boolean want) {
        due(call, got ? 1 : 0, want ? 1 : 0);
    }

    private static void feed(ByThePound x, String s) {
        for (int i = 0; i < s.length(); i += 20) {
            int[] w = new int[5];
            for (int j = 0; j < 20; j++) {
                w[j / 4] = w[j / 4] << 8 | (i + j < s.length() ? s.charAt(i + j) : ' ');
            }
            due("feed", x.feed(w[0], w[1], w[2], w[3], w[4]), i + 20);
        }
        due("end", x.end(s.length()), s.length());
    }

    private static int read(ByThePound x, String s) {
        feed(x, s);
        return x.text();
    }

    private static void faulty(String s, int fault, int place) {
        ByThePound x = new ByThePound();
        due("text " + s, read(x, s), -1);
        due("fault of " + s, x.fault(0), fault);
        due("place in " + s, x.fault(1), place);
        due("tape behind " + s, x.about(7), 0);
        due("texts behind " + s, x.about(4), 0);
    }

    private static void faultless(String s) {
        ByThePound x = new ByThePound();
        due("text " + s, read(x, s), 0);
        due("fault of " + s, x.fault(0), 0);
        due("place in " + s, x.fault(1), -1);
    }

    private static String times(String s, int n) {
        return s.repeat(n);
    }

    /** Two things, a maker of both without wage, two houses that differ. */
    private static ByThePound small() {
        ByThePound x = new ByThePound();
        due("thing", x.thing(10, 2, 8, 1), 0);
        due("thing", x.thing(20, 1, 3, 0), 1);
        due("maker", x.maker(100, 3, 0), 0);
        due("house", x.house(1, 150), true);
        return x;
    }

    private static void newObject() {
        ByThePound x = new ByThePound();
        for (int what = 0; what <= 7; what++) {
            due("about " + what, x.about(what), what == 5 ? -1 : 0);
        }
        for (int house = 0; house < 4; house++) {
            due("percent", x.about(10 + house), 100);
        }
        due("fault 0", x.fault(0), -1);
        due("fault 1", x.fault(1), -1);
        x.thing(1, 1, 1, 1);
        x.house(2, 70);
        due("back", x.back(), 0);
        due("things", x.about(0), 0);
        due("percent", x.about(12), 100);
        due("NONE", ByThePound.NONE, -1);
    }

    private static void thing() {
        ByThePound x = new ByThePound();
        due("size 0", x.thing(0, 1, 1, 0), -1);
        due("size 100", x.thing(100, 1, 1, 0), -1);
        due("least 0", x.thing(1, 0, 1, 0), -1);
        due("most 41", x.thing(1, 1, 41, 0), -1);
        due("least above most", x.thing(1, 3, 2, 0), -1);
        due("stuff -1", x.thing(1, 1, 1, -1), -1);
        due("stuff 100", x.thing(1, 1, 1, 100), -1);
        due("lowest", x.thing(1, 1, 1, 0), 0);
        due("highest", x.thing(99, 40, 40, 99), 1);
        for (int i = 2; i < 10; i++) {
            due("thing", x.thing(5, 1, 40, 0), i);
        }
        due("the 11th", x.thing(5, 1, 40, 0), -1);
        due("things", x.about(0), 10);
    }

    private static void maker() {
        ByThePound x = new ByThePound();
        due("hours -1", x.maker(-1, 0, 0), -1);
        due("hours 10000", x.maker(10000, 0, 0), -1);
        due("crafts -1", x.maker(0, -1, 0), -1);
        due("crafts 1024", x.maker(0, 1024, 0), -1);
        due("wage -1", x.maker(0, 0, -1), -1);
        due("wage 100", x.maker(0, 0, 100), -1);
        due("lowest", x.maker(0, 0, 0), 0);
        due("highest", x.maker(9999, 1023, 99), 1);
        for (int i = 2; i < 6; i++) {
            due("maker", x.maker(1, 1, 1), i);
        }
        due("the 7th", x.maker(1, 1, 1), -1);
        due("makers", x.about(1), 6);
    }

    private static void buyer() {
        ByThePound x = new ByThePound();
        due("want nothing told", x.buyer(1, 0, 0, 1), -1);
        x.thing(1, 1, 1, 0);
        due("many 0", x.buyer(0, 0, 0, 1), -1);
        due("many 1000", x.buyer(1000, 0, 0, 1), -1);
        due("want -1", x.buyer(1, -1, 0, 1), -1);
        due("want 1", x.buyer(1, 1, 0, 1), -1);
        due("taste -1", x.buyer(1, 0, -1, 1), -1);
        due("taste 100", x.buyer(1, 0, 100, 1), -1);
        due("carry 0", x.buyer(1, 0, 0, 0), -1);
        due("carry 100", x.buyer(1, 0, 0, 100), -1);
        due("lowest", x.buyer(1, 0, 0, 1), 0);
        due("highest", x.buyer(999, 0, 99, 99), 1);
        for (int i = 2; i < 10; i++) {
            due("buyer", x.buyer(1, 0, 0, 1), i);
        }
        due("the 11th", x.buyer(1, 0, 0, 1), -1);
        due("buyers", x.about(2), 10);
    }

    private static void house() {
        ByThePound x = new ByThePound();
        due("house -1", x.house(-1, 100), false);
        due("house 4", x.house(4, 100), false);
        due("percent 49", x.house(0, 49), false);
        due("percent 151", x.house(0, 151), false);
        due("percent 50", x.house(0, 50), true);
        due("percent 150", x.house(3, 150), true);
        due("percent", x.about(10), 50);
        due("percent", x.about(11), 100);
        due("percent", x.about(13), 150);
    }

    private static void offer() {
        ByThePound x = small();
        due("maker 1", x.offer(1, 0), -1);
        due("maker -1", x.offer(-1, 0), -1);
        due("house -1", x.offer(0, -1), -1);
        due("house 4", x.offer(0, 4), -1);
        for (int i = 0; i < 20; i++) {
            due("offer", x.offer(0, i % 4), i);
        }
        due("the 21st", x.offer(0, 0), -1);
        due("offers", x.about(3), 20);
        due("items", x.of(19, 6), 0);
        due("lawful", x.of(19, 4), 1);
    }

    private static void put() {
        ByThePound x = small();
        x.thing(5, 1, 9, 0);
        x.maker(10, 1020, 0);
        x.offer(0, 0);
        x.offer(1, 0);
        due("offer -1", x.put(-1, 0, 2, 0), -1);
        due("offer 2", x.put(2, 0, 2, 0), -1);
        due("thing -1", x.put(0, -1, 2, 0), -1);
        due("no craft of his", x.put(0, 2, 2, 0), -1);
        due("a craft that isn't told", x.put(1, 3, 2, 0), -1);
        due("thing 32", x.put(0, 32, 2, 0), -1);
        due("weight below", x.put(0, 0, 1, 0), -1);
        due("weight above", x.put(0, 0, 9, 0), -1);
        due("water -1", x.put(0, 0, 2, -1), -1);
        due("water without wet", x.put(0, 0, 2, 1), -1);
        due("first", x.put(0, 0, 2, 0), 1);
        due("the same thing", x.put(0, 0, 8, 0), 2);
        due("third", x.put(0, 1, 3, 0), 3);
        due("fourth", x.put(0, 1, 3, 0), -1);
        due("the other's craft", x.put(1, 2, 9, 0), 1);
        due("items", x.of(0, 6), 3);
        x.drop(0);
        read(x, "wet weight * tied;");
        x.by(0);
        x.put(0, 1, 1, 0);
        due("wet has tied 1 and WEIGHT", x.put(0, 0, 3, 4), -1);
        due("wet has tied 1 and WEIGHT", x.put(0, 0, 3, 3), 2);
        read(x, "wet 50;");
        x.by(1);
        due("wet above 9", x.put(0, 0, 3, 10), -1);
        due("wet 9", x.put(0, 0, 3, 9), 3);
        x.drop(0);
        read(x, "wet 0 - 3;");
        x.by(2);
        due("wet below 0 is 0", x.put(0, 0, 3, 1), -1);
        due("wet below 0 is 0", x.put(0, 0, 3, 0), 1);
    }

    private static void drop() {
        ByThePound x = small();
        x.offer(0, 0);
        x.put(0, 0, 2, 0);
        x.put(0, 1, 2, 0);
        due("offer -1", x.drop(-1), -1);
        due("offer 1", x.drop(1), -1);
        due("two", x.drop(0), 2);
        due("none left", x.drop(0), 0);
        due("items", x.of(0, 6), 0);
        due("thing", x.of(0, 10), -1);
        due("offers", x.about(3), 1);
        due("put again", x.put(0, 1, 3, 0), 1);
        due("weight", x.of(0, 20), 3);
    }

    private static void feedAndEnd() {
        ByThePound x = new ByThePound();
        for (int i = 1; i <= 15; i++) {
            due("feed", x.feed(0x20202020, -1, 0, 1, 2), 20 * i);
        }
        due("feed above 300", x.feed(0, 0, 0, 0, 0), -1);
        due("tape", x.about(7), 300);
        due("end -1", x.end(-1), -1);
        due("end 301", x.end(301), -1);
        due("end 300", x.end(300), 300);
        due("end 281", x.end(281), 281);
        due("feed above 300", x.feed(0, 0, 0, 0, 0), -1);
        due("end 280", x.end(280), 280);
        due("feed to 300", x.feed(0, 0, 0, 0, 0), 300);
        due("end 6", x.end(6), 6);
        due("end 7", x.end(7), -1);
        due("text", x.text(), -1);
        due("a byte of 255 is no token", x.fault(0), 1);
        due("behind four blanks", x.fault(1), 4);
        x.feed(0x77657420, 0x333b0a20, 0x20202020, 0x20202020, 0x20202020);
        due("wet 3;", x.text(), 0);
        due("the tape is empty then", x.about(7), 0);
        due("end 0", x.end(0), 0);
    }

    private static void text() {
        ByThePound x = new ByThePound();
        due("an empty text", x.text(), 0);
        due("fault", x.fault(0), 0);
        due("place", x.fault(1), -1);
        due("a faulty one", read(x, "price"), -1);
        for (int i = 1; i < 6; i++) {
            due("text", read(x, "price " + i + ";"), i);
        }
        feed(x, "price 7");
        due("the 7th", x.text(), -1);
        due("the tape stays", x.about(7), 7);
        due("fault of the 6th", x.fault(0), 0);
        due("texts", x.about(4), 6);
        due("THE TEXT", x.about(5), -1);
    }

    private static void faults() {
        faultless("");
        faultless(" \n ");
        faultless("price 1;hours 2;worth taste*want;wet 9999;bars 1=1;bars 1<2 or 1>2 and not 1<=2;bars 1>=1;");
        faultless("bars(1)#-1;");
        faultless("wet-1" + times("+1", 147) + ";");
        faultless("price1;");
        faultless("bars not1=1or2=2and3=3;");
        faultless("bars 1=1;bars 1=1;bars 1=1;bars 1=1;bars 1=1;bars 1=1;bars 1=1;bars 1=1;bars 1=1;price 1;");
        faultless("price 0000009999;");
        faultless("price thing+weight*size/tied;");
        faultless("price " + times("(", 8) + "1" + times(")", 8) + "+" + times("-", 8) + "1;");
        faultless("bars " + times("not ", 8) + "1=1 and " + times("not ", 4) + "((((1))))<----1;");
        faulty("1", 1, 0);
        faulty(";", 1, 0);
        faulty("priced 1;", 1, 0);
        faulty("Price 1;", 1, 0);
        faulty("priceA 1;", 1, 0);
        faulty("priceZ 1;", 1, 0);
        faulty("pricea 1;", 1, 0);
        faulty("pricez 1;", 1, 0);
        faulty("price@ 1;", 1, 5);
        faulty("price[ 1;", 1, 5);
        faulty("price` 1;", 1, 5);
        faulty("price{ 1;", 1, 5);
        faulty("price 1/1:1;", 1, 9);
        faulty("price ;", 1, 6);
        faulty("price 1", 1, 7);
        faulty("price 1 \n ", 1, 10);
        faulty("price 1; weight", 1, 9);
        faulty("price 1 1;", 1, 8);
        faulty("price (1;", 1, 8);
        faulty("price 1);", 1, 7);
        faulty("price 1 < 2;", 1, 8);
        faulty("price not 1;", 1, 6);
        faulty("price price;", 1, 6);
        faulty("price wet;", 1, 6);
        faulty("price 1 $;", 1, 8);
        faulty("price 1 taste;", 1, 8);
        faulty("price 1 10000;", 1, 8);
        faulty("price +1;", 1, 6);
        faulty("bars 1;", 1, 6);
        faulty("bars 1=2=3;", 1, 8);
        faulty("bars (1=2);", 1, 7);
        faulty("bars 1=<2;", 1, 7);
        faulty("bars 1< =2;", 1, 8);
        faulty("bars 1=1 and;", 1, 12);
        faulty("bars 1=1 or or;", 1, 12);
        faulty("price 10000;", 2, 6);
        faulty("price 1+99999999999999999999;", 2, 8);
        faulty("price " + times("(", 9) + "1;", 3, 14);
        faulty("price " + times("-", 9) + "1;", 3, 14);
        faulty("price " + times("-(", 4) + "1+-1;", 3, 16);
        faulty("bars " + times("not ", 9) + "1=1;", 3, 37);
        faulty("bars " + times("not ", 8) + "1=-1;", 3, 39);
        faulty("bars " + times("not ", 8) + "(1)=1;", 3, 37);
        faulty("bars " + times("not ", 8) + "1 not", 1, 39);
        faulty("price " + times("(", 8) + "1(", 1, 15);
        faulty("wet 1;wet 2;", 4, 6);
        faulty("hours 1;bars 1=2;hours", 4, 17);
        faulty("price taste;", 5, 6);
        faulty("hours 1+want;", 5, 8);
        faulty("wet taste;", 5, 4);
        faulty("bars want=1;", 5, 5);
        faulty("wet-1" + times("+1", 147) + "+", 1, 300);
        faulty(times("bars 1=1;", 10) + "bars", 6, 90);
        faulty(times("bars 1=1;", 10) + "price 10000;", 6, 90);
        faulty("price 1;" + times("bars 1=1;", 9) + "price", 4, 89);
        faulty(times("bars 1=1;", 10) + "size", 1, 90);
        ByThePound x = new ByThePound();
        read(x, "price 10000;");
        due("fault -1", x.fault(-1), -1);
        due("fault 2", x.fault(2), -1);
        read(x, "price 1;");
        due("of the latest", x.fault(0), 0);
    }

    private static void by() {
        ByThePound x = new ByThePound();
        due("none", x.by(-1), true);
        due("-2", x.by(-2), false);
        due("no text yet", x.by(0), false);
        read(x, "price 5;");
        due("not by itself", x.about(5), -1);
        due("the first", x.by(0), true);
        due("THE TEXT", x.about(5), 0);
        due("1", x.by(1), false);
        due("THE TEXT stays", x.about(5), 0);
        due("none", x.by(-1), true);
        due("THE TEXT", x.about(5), -1);
    }

    /** The value of a sum, seen through a buyer's WORTH of one item: thing 0, size 10, weight 6, water 0, taste 7, want 1. */
    private static void sum(String s, int want) {
        ByThePound x = small();
        x.buyer(1, 0, 7, 99);
        x.offer(0, 1);
        x.put(0, 0, 6, 0);
        due("text " + s, read(x, "worth " + s + ";"), 0);
        x.by(0);
        due(s, x.worth(0, 0), want);
    }

    private static void question(String s, boolean want) {
        ByThePound x = small();
        x.offer(0, 1);
        x.put(0, 0, 6, 0);
        due("text " + s, read(x, "bars " + s + ";"), 0);
        x.by(0);
        due(s, x.of(0, 4), want ? 0 : 1);
    }

    private static void sums() {
        sum("2+3*4", 14);
        sum("20-3-4", 13);
        sum("20/3/2", 3);
        sum("20-(3-4)", 21);
        sum("7/2*2", 6);
        sum("-7/2", -3);
        sum("(0-7)/2", -3);
        sum("7/-2", -3);
        sum("5/0", 0);
        sum("--5", 5);
        sum("-2*-3", 6);
        sum("9999*9999/1000", 1000);
        sum("(9999*9999+1)/1000", 1000);
        sum("9999*101-9999*101+3", 3);
        sum("(-9999*9999-1)/1000", -1000);
        sum("9999*100+200-9999*100", 100);
        sum("9999+1", 9999);
        sum("-9999-1", -9999);
        sum("thing", 0);
        sum("weight", 6);
        sum("size", 10);
        sum("tied", 1);
        sum("taste", 7);
        sum("want", 1);
        question("1<1", false);
        question("1<=1", true);
        question("1>1", false);
        question("1>=1", true);
        question("1=1", true);
        question("1#1", false);
        question("1#2", true);
        question("1<2 or 1=1 and 1>2", true);
        question("1>2 and 1=1 or 1<2", true);
        question("1>2 and 1>2 or 1>2", false);
        question("not 1>2 and 1>2", false);
        question("not not 1<2", true);
        question("weight = 9", true);
        question("size = 10", true);
        String deep = times("1+2*(", 8) + "1+2*3" + times(")", 8);
        sum(deep, 2047);
        question("1=2 or 1=1 and 2046 < " + deep, true);
        question("1=2 or 1=1 and 2047 < " + deep, false);
        question("1=2 or 1=1 and " + times("not ", 8) + "2047 = 1+2*1023", true);
    }

    private static void of() {
        ByThePound x = small();
        x.maker(50, 3, 4);
        read(x, "wet 3; price weight * 2 + tied; hours weight + tied; bars weight > 12;");
        x.offer(1, 1);
        x.put(0, 0, 7, 0);
        due("hours without a text", x.of(0, 0), 2);
        due("price without a text", x.of(0, 1), 10);
        due("cost without a text", x.of(0, 2), 15);
        x.by(0);
        x.drop(0);
        x.put(0, 0, 6, 3);
        x.put(0, 1, 3, 0);
        due("hours", x.of(0, 0), 8 + 5);
        due("price", x.of(0, 1), 13 * 2 + 2 + 4 * 2 + 2);
        due("cost", x.of(0, 2), 13 * 4 + 6);
        due("load", x.of(0, 3), 12);
        due("lawful", x.of(0, 4), 0);
        due("sold", x.of(0, 5), 0);
        due("items", x.of(0, 6), 2);
        due("thing 0", x.of(0, 10), 0);
        due("thing 1", x.of(0, 11), 1);
        due("thing 2", x.of(0, 12), -1);
        due("weight 0", x.of(0, 20), 6);
        due("weight 1", x.of(0, 21), 3);
        due("water 0", x.of(0, 30), 3);
        due("water 1", x.of(0, 31), 0);
        due("water 2", x.of(0, 32), -1);
        due("7", x.of(0, 7), -1);
        due("9", x.of(0, 9), -1);
        due("40", x.of(0, 40), -1);
        due("-1", x.of(0, -1), -1);
        due("offer 1", x.of(1, 0), -1);
        due("offer -1", x.of(-1, 0), -1);
        x.house(1, 140);
        due("lawful", x.of(0, 4), 1);
        x.by(-1);
        due("water above wet counts", x.of(0, 1), 12 + 4);
        due("and is carried", x.of(0, 3), 12);
        read(x, "hours 0 - 5; price 0 - 5;");
        read(x, "hours 1000; price 9999 + 1;");
        x.by(1);
        due("hours 1 at least", x.of(0, 0), 2);
        due("price 0 at least", x.of(0, 1), 0);
        x.by(2);
        due("hours 999 at most", x.of(0, 0), 2 * 999);
        due("price 9999 at most", x.of(0, 1), 2 * 9999);
    }

    private static void worth() {
        ByThePound x = small();
        x.buyer(3, 1, 20, 9);
        x.offer(0, 1);
        due("of nothing", x.worth(0, 0), 0);
        x.put(0, 0, 6, 0);
        due("not wanted", x.worth(0, 0), 0);
        x.put(0, 1, 2, 0);
        x.put(0, 1, 2, 0);
        due("wanted twice", x.worth(0, 0), 40);
        due("buyer -1", x.worth(-1, 0), NO_WORTH);
        due("buyer 1", x.worth(1, 0), NO_WORTH);
        due("offer -1", x.worth(0, -1), NO_WORTH);
        due("offer 1", x.worth(0, 1), NO_WORTH);
        read(x, "worth taste * want - weight * tied;");
        x.by(0);
        due("by the text, with WEIGHT", x.worth(0, 0), 40 - 18 - 6 - 6);
    }

    private static void likes() {
        ByThePound x = small();
        x.buyer(3, 0, 20, 6);
        x.offer(0, 0);
        x.offer(0, 0);
        x.offer(0, 0);
        x.offer(0, 0);
        due("none has items", x.likes(0), -1);
        x.put(3, 0, 7, 0);
        due("too heavy", x.likes(0), -1);
        x.put(2, 0, 4, 0);
        due("20 less 4", x.likes(0), 2);
        x.put(1, 0, 4, 0);
        due("the lower of like ones", x.likes(0), 1);
        x.put(0, 0, 6, 0);
        due("20 less 6 is less", x.likes(0), 1);
        read(x, "bars weight < 6;");
        x.by(0);
        due("the others are barred", x.likes(0), 0);
        x.by(-1);
        due("buyer -1", x.likes(-1), -1);
        due("buyer 1", x.likes(1), -1);
        ByThePound y = small();
        y.buyer(1, 0, 6, 99);
        y.offer(0, 0);
        y.put(0, 0, 6, 0);
        due("worth is price", y.likes(0), 0);
        y.drop(0);
        y.put(0, 0, 7, 0);
        due("worth below price", y.likes(0), -1);
    }

    private static void yearAndTold() {
        ByThePound x = small();
        x.maker(10, 3, 2);
        x.buyer(30, 0, 30, 20);
        x.buyer(5, 1, 9, 20);
        x.buyer(4, 0, 8, 20);
        due("ahead of any", x.told(0, 0), 0);
        due("ahead of any", x.told(1, 0), 0);
        due("ahead of any", x.told(2, 0), 0);
        x.offer(1, 0);
        x.put(0, 0, 4, 0);
        x.offer(0, 0);
        x.put(1, 0, 8, 0);
        x.offer(1, 0);
        x.put(2, 1, 1, 0);
        // offer 0: 2 hours, price 4, cost 8; offer 1: 3 hours, price 8, cost 8; offer 2: 1 hour, price 1, cost 2
        due("year", x.year(), 5 + 25 + 4);
        due("sold", x.of(0, 5), 5);
        due("sold", x.of(1, 5), 29);
        due("sold", x.of(2, 5), 0);
        due("earned", x.told(0, 0), 0);
        due("earned", x.told(0, 1), -20);
        due("hours", x.told(1, 0), 100 - 29 * 3);
        due("hours", x.told(1, 1), 0);
        due("lacks", x.told(2, 0), 0);
        due("lacks", x.told(2, 1), 5);
        due("lacks", x.told(2, 2), 0);
        due("gain", x.told(3, 0), 5 * 26 + 25 * 22);
        due("gain", x.told(3, 1), 0);
        due("gain of worth that is price", x.told(3, 2), 0);
        due("4", x.told(4, 0), NO_SUM);
        due("-1", x.told(-1, 0), NO_SUM);
        due("maker 2", x.told(0, 2), NO_SUM);
        due("maker -1", x.told(1, -1), NO_SUM);
        due("buyer 3", x.told(2, 3), NO_SUM);
        due("buyer -1", x.told(3, -1), NO_SUM);
        x.maker(7, 1, 1);
        x.buyer(7, 1, 1, 1);
        x.offer(0, 0);
        due("not there then", x.told(1, 2), 0);
        due("not there then", x.told(2, 3), 0);
        due("not there then", x.of(3, 5), 0);
        x.drop(1);
        due("sold in the latest year", x.of(1, 5), 29);
        x.buyers(0, 2);
        due("new buyers were not there", x.told(2, 1), 0);
        due("new buyers were not there", x.told(3, 0), 0);
        due("the maker was", x.told(0, 1), -20);
        ByThePound y = new ByThePound();
        due("a year of nothing", y.year(), 0);
    }

    private static void judge() {
        ByThePound x = small();
        x.buyer(3, 0, 20, 20);
        x.offer(0, 0);
        x.offer(0, 0);
        x.put(0, 0, 2, 0);
        x.put(1, 0, 8, 0);
        due("ahead of any year", x.judge(), -1);
        x.year();
        due("price is cost", x.judge(), -1);
        x.house(0, 50);
        due("price is below cost now", x.judge(), 0);
        x.drop(0);
        due("offer 1 was not sold", x.judge(), -1);
    }

    private static void best() {
        ByThePound x = small();
        x.maker(4, 1, 0);
        x.buyer(10, 0, 9, 7);
        due("maker 2", x.best(2, 0, 0, 0), NO_SUM);
        due("maker -1", x.best(-1, 0, 0, 0), NO_SUM);
        due("no craft", x.best(1, 1, 0, 0), NO_SUM);
        due("thing 2", x.best(0, 2, 0, 0), NO_SUM);
        due("house 4", x.best(0, 0, 4, 0), NO_SUM);
        due("house -1", x.best(0, 0, -1, 0), NO_SUM);
        due("what 2", x.best(0, 0, 0, 2), NO_SUM);
        due("what -1", x.best(0, 0, 0, -1), NO_SUM);
        // at house 1: 2 -> 3, 3 -> 4, 4 -> 6, 5 -> 7, 6 -> 9 for a cost of 1 a pound
        due("weight", x.best(0, 0, 1, 0), 6);
        due("earned", x.best(0, 0, 1, 1), 30);
        due("weight when hours are few", x.best(1, 0, 1, 0), 6);
        due("earned when hours are few", x.best(1, 0, 1, 1), 6);
        due("of like ones the lowest", x.best(0, 0, 0, 0), 2);
        due("earned of like ones", x.best(0, 0, 0, 1), 0);
        x.offer(0, 0);
        x.put(0, 0, 6, 0);
        // 4 pounds would cost 6 as well, and of like ones the lower offer is taken
        due("beside a like offer ahead", x.best(0, 0, 1, 0), 2);
        due("no more offers", x.about(3), 1);
        for (int i = 1; i < 20; i++) {
            x.offer(0, 0);
        }
        due("even if there are 20", x.best(0, 0, 1, 0), 2);
        due("offers", x.about(3), 20);
        x.image();
        x.back();
        due("earned", x.best(0, 0, 1, 1), 10);
        due("no year", x.told(1, 0), 0);
    }

    private static void rounds() {
        ByThePound x = small();
        x.buyer(10, 0, 9, 7);
        due("without offers", x.rounds(), 1);
        x.offer(0, 1);
        x.put(0, 0, 2, 0);
        due("one that changes, one that doesn't", x.rounds(), 2);
        due("weight", x.of(0, 20), 6);
        due("none changes", x.rounds(), 1);
        due("no year", x.of(0, 5), 0);
        ByThePound y = small();
        y.buyer(10, 0, 9, 7);
        y.offer(0, 0);
        y.put(0, 0, 5, 0);
        due("of like ones what it is", y.rounds(), 1);
        due("weight", y.of(0, 20), 5);
        ByThePound z = chase();
        due("makers that chase one another", z.rounds(), -1);
        due("weight after nine", z.of(0, 20), 12);
        due("weight after nine", z.of(1, 20), 11);
        due("nine more", z.rounds(), -1);
        due("weight after eighteen", z.of(0, 20), 3);
        due("three that change, one that doesn't", z.rounds(), 3);
        due("weight at last", z.of(0, 20), 1);
    }

    /** Two makers of one thing: each round the first goes as low as the second, and the second a pound lower. */
    private static ByThePound chase() {
        ByThePound z = new ByThePound();
        z.thing(10, 1, 40, 0);
        z.maker(9999, 1, 0);
        z.maker(9999, 1, 0);
        z.buyer(10, 0, 40, 40);
        read(z, "price weight; hours 1;");
        z.by(0);
        z.offer(0, 0);
        z.put(0, 0, 20, 0);
        z.offer(1, 0);
        z.put(1, 0, 20, 0);
        return z;
    }

    private static void never() {
        ByThePound x = small();
        x.thing(5, 5, 9, 2);
        due("-1", x.never(-1), -1);
        due("3", x.never(3), -1);
        due("nobody's craft", x.never(2), 1);
        due("no buyer", x.never(0), 2);
        x.buyer(1, 0, 1, 9);
        due("worth is below price", x.never(0), 2);
        x.buyer(1, 0, 2, 1);
        due("too heavy for him", x.never(0), 2);
        x.buyer(1, 0, 2, 2);
        due("two pounds at 100 percent", x.never(0), 0);
        due("nobody wants it but for nothing", x.never(1), 2);
        for (int house = 0; house < 4; house++) {
            x.house(house, 99);
        }
        due("price is below cost in all houses", x.never(0), 3);
        x.house(3, 100);
        due("it can be had in one", x.never(0), 0);
        read(x, "bars weight < 3 and thing = 0;");
        x.by(0);
        due("barred", x.never(0), 2);
    }

    private static void tied() {
        ByThePound x = new ByThePound();
        x.thing(10, 2, 4, 0);
        x.thing(20, 1, 3, 0);
        x.thing(20, 1, 3, 0);
        x.maker(9999, 3, 0);
        x.buyer(10, 0, 4, 9);
        x.buyer(10, 1, 3, 9);
        due("one and the same", x.tied(0, 0, 0, 0), NO_SUM);
        due("maker 1", x.tied(1, 0, 1, 0), NO_SUM);
        due("no craft", x.tied(0, 0, 2, 0), NO_SUM);
        due("no craft", x.tied(0, 2, 0, 0), NO_SUM);
        due("house 4", x.tied(0, 0, 1, 4), NO_SUM);
        due("house -1", x.tied(0, 0, 1, -1), NO_SUM);
        // apart: 4 pounds for 4 and 3 pounds for 3, ten of each; tied: at most 3 for both of them, or 4 for the one
        due("apart is better", x.tied(0, 0, 1, 0), 60 - 70);
        read(x, "worth taste * want + tied * tied * tied - 1;");
        x.by(0);
        // tied: each buyer's worth is 4 + 14 or 3 + 14, the load 7 at most, so all pay 7; apart: 4 and 3
        due("tied is better", x.tied(0, 0, 1, 0), 140 - 70);
        due("no offers", x.about(3), 0);
    }

    private static void harmAndLeast() {
        ByThePound x = small();
        x.maker(10, 1, 1);
        due("without texts", x.least(), -1);
        x.buyer(10, 0, 20, 5);
        x.buyer(2, 1, 1, 5);
        // could: thing 0 at 2 pounds by maker 0 for 2: 18 each; thing 1 for nothing: 1 each
        due("could", x.harm(-1, 0), 182);
        due("had", x.harm(-1, 1), 0);
        due("harm", x.harm(-1, 2), 182);
        x.offer(0, 1);
        x.put(0, 0, 4, 0);
        due("had: ten times 14 and 6 less 4", x.harm(-1, 1), 160);
        due("harm", x.harm(-1, 2), 22);
        read(x, "bars weight > 5;");
        read(x, "worth taste * want + 1; bars weight > 1;");
        read(x, "price 5;");
        due("could counts no law", x.harm(0, 0), 182);
        due("had none", x.harm(0, 1), 0);
        due("could by another worth", x.harm(1, 0), 194);
        due("harm", x.harm(1, 2), 194);
        due("harm", x.harm(2, 2), 22);
        due("least", x.least(), 2);
        read(x, "price 6;");
        due("of like ones the lowest", x.least(), 2);
        due("text 4", x.harm(4, 0), NO_SUM);
        due("text -2", x.harm(-2, 0), NO_SUM);
        due("what 3", x.harm(0, 3), NO_SUM);
        due("what -1", x.harm(0, -1), NO_SUM);
        due("THE TEXT", x.about(5), -1);
        due("no year", x.of(0, 5), 0);
        ByThePound y = small();
        y.buyer(3, 0, 20, 1);
        due("too heavy", y.harm(-1, 0), 0);
    }

    private static void changed() {
        ByThePound x = small();
        x.maker(100, 3, 0);
        x.buyer(10, 0, 20, 9);
        x.buyer(10, 1, 9, 9);
        x.offer(0, 0);
        x.put(0, 0, 4, 0);
        x.offer(1, 0);
        x.put(1, 1, 3, 0);
        read(x, "price 6 - thing * 5;");
        due("to none", x.changed(-1, 0), 0);
        due("buyers more", x.changed(0, 0), 2);
        due("buyers less", x.changed(0, 1), 1);
        due("makers more", x.changed(0, 2), 1);
        due("makers less", x.changed(0, 3), 2);
        x.by(0);
        due("to itself", x.changed(0, 0), 0);
        due("back: buyers more", x.changed(-1, 0), 1);
        due("back: makers less", x.changed(-1, 3), 1);
        due("text 1", x.changed(1, 0), -1);
        due("text -2", x.changed(-2, 0), -1);
        due("what 4", x.changed(0, 4), -1);
        due("what -1", x.changed(0, -1), -1);
        due("THE TEXT", x.about(5), 0);
    }

    private static void where() {
        ByThePound x = small();
        x.buyer(10, 0, 7, 9);
        due("offer 0", x.where(0), -1);
        x.offer(0, 3);
        due("without items", x.where(0), 0);
        x.put(0, 0, 5, 0);
        due("150 percent of 5 is 7", x.where(0), 1);
        x.house(1, 100);
        x.house(2, 150);
        x.house(3, 140);
        due("of like ones the lowest", x.where(0), 2);
        x.house(0, 151);
        x.house(0, 140);
        due("of like ones the lowest", x.where(0), 0);
        due("offer -1", x.where(-1), -1);
        x.house(3, 50);
        due("it stays where it is", x.of(0, 1), 2);
    }

    private static void gifts() {
        ByThePound x = new ByThePound();
        due("from -1", x.gift(-1, 0, 1), -1);
        due("from 8", x.gift(8, 0, 1), -1);
        due("to -1", x.gift(0, -1, 1), -1);
        due("to 8", x.gift(0, 8, 1), -1);
        due("to himself", x.gift(3, 3, 1), -1);
        due("worth 0", x.gift(0, 1, 0), -1);
        due("worth 1000", x.gift(0, 1, 1000), -1);
        due("steady without", x.steady(), 0);
        due("net without", x.net(7), 0);
        for (int i = 0; i < 30; i++) {
            due("gift", x.gift(i % 8, (i + 1) % 8, i == 0 ? 999 : 1), i);
        }
        due("the 31st", x.gift(0, 1, 1), -1);
        due("gifts", x.about(6), 30);
        due("all around", x.round(5), 8);
        due("net", x.net(0), 3 - 3 - 999);
        due("net", x.net(1), 4 - 4 + 998);
        due("net", x.net(6), 4 - 3);
    }

    private static void round() {
        ByThePound x = new ByThePound();
        x.gift(2, 0, 1);
        x.gift(1, 2, 1);
        x.gift(0, 1, 1);
        due("three, in whatever order", x.round(0), 3);
        due("three", x.round(2), 3);
        due("nothing comes back", x.round(3), -1);
        x.gift(3, 0, 1);
        due("nothing comes back", x.round(3), -1);
        x.gift(1, 0, 5);
        due("two", x.round(0), 2);
        due("two", x.round(1), 2);
        due("three still", x.round(2), 3);
        due("8", x.round(8), -1);
        due("-1", x.round(-1), -1);
        due("net", x.net(0), 1 - 1 + 1 + 5);
        due("8", x.net(8), NO_WORTH);
        due("-1", x.net(-1), NO_WORTH);
    }

    private static void steady() {
        ByThePound x = new ByThePound();
        x.gift(0, 1, 5);
        x.gift(1, 0, 5);
        due("all nets are 0", x.steady(), 0);
        x.gift(0, 2, 3);
        // 0 is at -3: away goes his 5 (the dearest), then 1 is at -5 and gives up his 5, then 0 his 3
        due("the dearest first", x.steady(), 3);
        due("they are all there again", x.net(0), -3);
        due("gifts", x.about(6), 3);
        x.gift(0, 3, 5);
        // 0 at -8: of his two of 5 the first goes, then 1 at -5 gives 5 up, 0 is at -8: 5, then 3
        due("the first of like ones", x.steady(), 4);
        due("3 has to take his away, and then the other goes", loop(true).steady(), 3);
        due("the first is the one that 2 can't give", loop(false).steady(), 1);
        ByThePound y = new ByThePound();
        y.gift(3, 4, 2);
        y.gift(4, 3, 1);
        y.gift(5, 6, 1);
        y.gift(6, 5, 1);
        due("one goes, then the other's", y.steady(), 2);
    }

    /** 2 gives as much to 3 and 4, and 3 gives it back; 2 gives to 3 first, or to 4. */
    private static ByThePound loop(boolean threeFirst) {
        ByThePound x = new ByThePound();
        x.gift(2, threeFirst ? 3 : 4, 5);
        x.gift(3, 2, 5);
        x.gift(2, threeFirst ? 4 : 3, 5);
        return x;
    }

    private static void buyers() {
        ByThePound x = new ByThePound();
        due("without things", x.buyers(0, 1), -1);
        x.thing(1, 1, 1, 1);
        x.thing(1, 1, 1, 1);
        x.buyer(5, 0, 5, 5);
        due("seed -1", x.buyers(-1, 1), -1);
        due("seed 10000", x.buyers(10000, 1), -1);
        due("n 0", x.buyers(0, 0), -1);
        due("n 11", x.buyers(0, 11), -1);
        due("buyers stay", x.about(2), 1);
        // x: 5, 1084, 18256, 2977 (of 18256 * 211 + 29 = 3852045), ..
        due("one of seed 0", x.buyers(0, 1), 6);
        due("many", x.about(100), 6);
        due("want", x.about(110), 0);
        due("taste", x.about(120), 56);
        due("carry", x.about(130), 1 + 3852045 % 30071 % 99);
        due("buyers", x.about(2), 1);
        due("one of seed 9999", x.buyers(9999, 1), 1 + 89996 % 40);
        due("want of seed 9999", x.about(110), (89996 * 211 + 29) % 30071 % 2);
        x.buyers(7, 10);
        due("ten", x.about(2), 10);
    }

    private static void image() {
        ByThePound x = small();
        x.buyer(10, 0, 20, 9);
        x.offer(0, 0);
        x.put(0, 0, 4, 0);
        read(x, "price 5;");
        x.by(0);
        x.gift(0, 1, 4);
        x.year();
        due("image", x.image(), 1);
        x.thing(1, 1, 1, 1);
        x.maker(1, 1, 1);
        x.buyers(5, 3);
        x.offer(0, 1);
        x.drop(0);
        read(x, "price 9;");
        x.by(1);
        x.gift(1, 2, 4);
        x.house(0, 60);
        x.year();
        read(x, "price 10000;");
        feed(x, "abc");
        due("back", x.back(), 1);
        int[] about = {2, 1, 1, 1, 1, 0, 1, 3};
        for (int what = 0; what < about.length; what++) {
            due("about " + what, x.about(what), about[what]);
        }
        due("percent", x.about(10), 100);
        due("many", x.about(100), 10);
        due("weight", x.of(0, 20), 4);
        due("price", x.of(0, 1), 5);
        due("sold", x.of(0, 5), 10);
        due("gain", x.told(3, 0), 150);
        due("hours", x.told(1, 0), 80);
        due("fault", x.fault(0), 2);
        due("gone", x.by(1), false);
        x.end(0);
        due("a new one in its place", read(x, "price 3;"), 1);
        x.by(1);
        due("price", x.of(0, 1), 3);
        due("back again", x.back(), 1);
        due("price", x.of(0, 1), 5);
        due("texts", x.about(4), 1);
    }

    private static void about() {
        ByThePound x = small();
        x.buyer(10, 1, 20, 9);
        due("-1", x.about(-1), -2);
        due("8", x.about(8), -2);
        due("9", x.about(9), -2);
        due("11", x.about(11), 150);
        due("14", x.about(14), -2);
        due("99", x.about(99), -2);
        due("many", x.about(100), 10);
        due("101", x.about(101), -2);
        due("want", x.about(110), 1);
        due("taste", x.about(120), 20);
        due("carry", x.about(130), 9);
        due("140", x.about(140), -2);
        x.feed(0, 0, 0, 0, 0);
        due("tape", x.about(7), 20);
    }

    /** As many of each as there can be; buyer i wants thing i, and things 7, 8, 9 are the last three offers. */
    private static ByThePound full() {
        ByThePound x = new ByThePound();
        for (int i = 0; i < 10; i++) {
            due("thing", x.thing(1, 1, 1, i == 9 ? 2 : 0), i);
            due("buyer", x.buyer(i + 1, i, 9, 9), i);
        }
        for (int i = 0; i < 6; i++) {
            due("maker", x.maker(i == 5 ? 15 : 100, 1023, 0), i);
        }
        for (int i = 0; i < 20; i++) {
            due("offer", x.offer(i == 18 ? 4 : 5, 3), i);
        }
        for (int i = 7; i < 10; i++) {
            due("put", x.put(10 + i, i, 1, 0), 1);
        }
        return x;
    }

    private static void lastAreTold(ByThePound x) {
        due("sold of 17", x.of(17, 5), 8);
        due("sold of 18", x.of(18, 5), 9);
        due("sold of 19: seven hours were left", x.of(19, 5), 7);
        due("eight of 1, seven of -1", x.told(0, 5), 1);
        due("nine of 1", x.told(0, 4), 9);
        due("hours left of 5", x.told(1, 5), 0);
        due("hours left of 4", x.told(1, 4), 91);
        due("lacks of 9", x.told(2, 9), 3);
        due("lacks of 8", x.told(2, 8), 0);
        due("gain of 9", x.told(3, 9), 56);
        due("gain of 8", x.told(3, 8), 72);
        due("judged", x.judge(), 19);
    }

    private static void lastOfEach() {
        ByThePound x = full();
        due("year", x.year(), 24);
        lastAreTold(x);
        due("likes", x.likes(9), 19);
        due("had", x.harm(-1, 1), 64 + 72 + 56 + 1 + 9);
        due("the last gift", giftsTill30(x), 29);
        due("image", x.image(), 20);
        due("drop", x.drop(17), 1);
        due("nine and ten", x.year(), 19);
        due("lacks of 9 now", x.told(2, 9), 0);
        due("sold of 19 now", x.of(19, 5), 10);
        due("back", x.back(), 20);
        lastAreTold(x);
        due("gifts", x.about(6), 30);
        due("net of 7: 29 ones and a 2", x.net(7), -31);
    }

    private static int giftsTill30(ByThePound x) {
        for (int i = 0; i < 29; i++) {
            due("gift", x.gift(7, 6, 1), i);
        }
        return x.gift(7, 6, 2);
    }

    private static void triedBehindAll() {
        ByThePound x = full();
        due("seven of thing 6", x.best(0, 6, 0, 1), 7);
        due("seven more of maker 5, and no hours are left for thing 9", x.best(5, 6, 0, 1), 15);
        due("six and seven of 2, less six and seven of 1", x.tied(0, 5, 6, 0), 13);
        due("thing 8", x.never(8), 0);
        due("thing 9", x.never(9), 3);
        for (int i = 0; i < 5; i++) {
            due("text", read(x, "price 1;"), i);
        }
        due("the last text", read(x, "bars thing = 9;"), 5);
        due("who gain more", x.changed(5, 0), 0);
        due("who gain less", x.changed(5, 1), 1 << 9);
        due("who earn more", x.changed(5, 2), 1 << 5);
        due("who earn less", x.changed(5, 3), 0);
    }

    private static void anything() {
        int[] odd = {Integer.MIN_VALUE, -1000, -2, -1, 0, 1, 2, 3, 9, 10, 31, 32, 40, 300, Integer.MAX_VALUE};
        for (int a : odd) {
            for (int b : odd) {
                ByThePound x = small();
                x.buyer(1, 0, 50, 50);
                x.offer(0, 0);
                x.thing(a, b, a, b);
                x.maker(a, b, a);
                x.buyer(a, b, b, a);
                x.house(a, b);
                x.offer(a, b);
                x.put(a, b, a, b);
                x.put(0, a, b, a);
                x.drop(a);
                x.feed(a, b, a, b, a);
                x.end(a);
                x.text();
                x.fault(a);
                x.by(a);
                x.of(a, b);
                x.worth(a, b);
                x.likes(a);
                x.told(a, b);
                x.best(a, b, a, b);
                x.best(0, a, b, 0);
                x.never(a);
                x.tied(a, b, a, b);
                x.tied(0, a, b, 0);
                x.harm(a, b);
                x.changed(a, b);
                x.where(a);
                x.gift(a, b, 1);
                x.round(a);
                x.net(a);
                x.buyers(a, b);
                x.about(a);
                x.year();
                x.rounds();
                x.steady();
            }
        }
    }

    private static void run(String name, Runnable test) {
        part = name;
        test.run();
    }

    public static void main(String[] args) {
        run("1 a new object", PromiseTests::newObject);
        run("2 thing", PromiseTests::thing);
        run("3 maker", PromiseTests::maker);
        run("4 buyer", PromiseTests::buyer);
        run("5 house", PromiseTests::house);
        run("6 offer", PromiseTests::offer);
        run("7 put", PromiseTests::put);
        run("8 drop", PromiseTests::drop);
        run("9, 10 feed, end", PromiseTests::feedAndEnd);
        run("11 text", PromiseTests::text);
        run("12 fault", PromiseTests::faults);
        run("13 by", PromiseTests::by);
        run("sums", PromiseTests::sums);
        run("14 of", PromiseTests::of);
        run("15 worth", PromiseTests::worth);
        run("16 likes", PromiseTests::likes);
        run("17, 18 year, told", PromiseTests::yearAndTold);
        run("19 judge", PromiseTests::judge);
        run("20 best", PromiseTests::best);
        run("21 rounds", PromiseTests::rounds);
        run("22 never", PromiseTests::never);
        run("23 tied", PromiseTests::tied);
        run("24, 25 harm, least", PromiseTests::harmAndLeast);
        run("26 changed", PromiseTests::changed);
        run("27 where", PromiseTests::where);
        run("28, 30 gift, net", PromiseTests::gifts);
        run("29, 30 round, net", PromiseTests::round);
        run("31 steady", PromiseTests::steady);
        run("32 buyers", PromiseTests::buyers);
        run("33, 34 image, back", PromiseTests::image);
        run("35 about", PromiseTests::about);
        run("the last of each", PromiseTests::lastOfEach);
        run("tried behind twenty offers", PromiseTests::triedBehindAll);
        run("any arguments", PromiseTests::anything);
        System.out.println(wrong == 0 ? "each promise holds" : wrong + " answers are not as due");
        if (wrong != 0) {
            System.exit(1);
        }
    }
}
