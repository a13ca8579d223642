/** Part II, sentence by sentence. */
final class TextSentences {
    private static final String BARRED = "bars 1=1;";

    private TextSentences() {
    }

    private static String times(String s, int n) {
        return s.repeat(n);
    }

    private static void texts() {
        ByThePound x = new ByThePound();
        for (int i = 0; i <= 5; i++) {
            due("text " + i, Says.read(x, "price " + i + ";"), i);
        }
        due("a seventh", Says.read(x, "price 6;"), -1);
        due("texts", x.about(4), 6);
        due("the last", x.by(5), true);
        due("none behind it", x.by(6), false);
    }

    private static void upTo300Bytes() {
        Says.sum("1" + times("+1", 145) + " ", 146);
        Says.sum("1" + times("+1", 146), 147);
        String full = "worth 1" + times("+1", 146) + ";";
        due("its length", full.length(), 300);
        ByThePound x = new ByThePound();
        Says.feed(x, full);
        due("one more byte", x.feed(0, 0, 0, 0, 0), -1);
        due("a text of 300", x.text(), 0);
        Says.faulty("worth 1" + times("+1", 146) + "+", 1, 300);
        Says.faulty(times(" ", 299) + ";", 1, 299);
        Says.faultless(times(" ", 300));
    }

    /** Which bytes are what, behind "price 1". */
    private static void blanksAside() {
        for (int c = 0; c <= 255; c++) {
            String s = "price 1" + (char) c + ";";
            boolean isDigit = c >= '0' && c <= '9';
            boolean isSign = "+-*/;".indexOf(c) >= 0;
            if (c == 32 || c == 10 || isDigit) {
                Says.faultless(s);
            } else {
                Says.faulty(s, 1, isSign ? 8 : 7);
            }
        }
        Says.faultless(" \n price \n 1 \n + \n 2 \n ; \n ");
        Says.faulty("pri ce 1;", 1, 0);
        Says.faulty("price 1 2;", 1, 8);
        Says.faulty("price 1\n2;", 1, 8);
        Says.faulty("bars 1< =1;", 1, 8);
        Says.faulty("bars 1>\n=1;", 1, 8);
    }

    private static void letters() {
        String all = "abcdefghijklmnopqrstuvwxyzABCDEFGHIJKLMNOPQRSTUVWXYZ";
        for (int i = 0; i < all.length(); i++) {
            Says.faulty("price weight" + all.charAt(i) + ";", 1, 6);
            Says.faulty("price " + all.charAt(i) + "size;", 1, 6);
        }
        String beside = "@[`{";
        for (int i = 0; i < beside.length(); i++) {
            Says.faulty("price weight" + beside.charAt(i) + ";", 1, 12);
        }
        Says.faulty("priceprice 1;", 1, 0);
        Says.faulty("Price 1;", 1, 0);
        Says.faulty("price SIZE;", 1, 6);
        Says.faulty("pric 1;", 1, 0);
        Says.faultless("bars weight=1and size=1or tied=1;");
    }

    private static void digits() {
        Says.sum("0", 0);
        Says.sum("1234", 1234);
        Says.sum("5678", 5678);
        Says.sum("9", 9);
        Says.sum("9999", 9999);
        Says.faulty("worth 10000;", 2, 6);
        Says.faulty("worth 1 0;", 1, 8);
        Says.faulty("worth 1:0;", 1, 7);
        Says.sum("9/3", 3);
        Says.faultless("price1;hours1;");
        Says.faulty("price 1size;", 1, 7);
    }

    private static void theLongest() {
        Says.asked("1<=1", true);
        Says.asked("1>=1", true);
        Says.asked("1<1", false);
        Says.asked("1>1", false);
        Says.asked("1=1", true);
        Says.asked("1#1", false);
        Says.faulty("bars 1=<1;", 1, 7);
        Says.faulty("bars 1=>1;", 1, 7);
        Says.faulty("bars 1<>1;", 1, 7);
        Says.faulty("bars 1==1;", 1, 7);
        Says.faulty("bars 1##1;", 1, 7);
        Says.faulty("bars 1<==1;", 1, 8);
        Says.faulty("bars 1>==1;", 1, 8);
        Says.faulty("bars 1<<=1;", 1, 7);
        Says.faultless("price(1+2-3*4/5);");
        Says.faulty("price 1**2;", 1, 8);
        Says.faulty("price 1;;", 1, 8);
    }

    private static void clauses() {
        Says.faultless("");
        Says.faultless("price 1;");
        Says.faultless(times(BARRED, 9));
        Says.faultless(times(BARRED, 10));
        Says.faulty(times(BARRED, 11), 6, 90);
        Says.faultless(times(BARRED, 6) + "price 1;hours 1;worth 1;wet 1;");
        Says.faulty(times(BARRED, 7) + "price 1;hours 1;worth 1;wet 1;", 6, 63 + 8 + 8 + 8);
        ByThePound x = Says.sixPounds();
        Says.rule(x, times("bars 1=2;", 9) + BARRED);
        due("the tenth is looked at", x.of(0, 4), 0);
    }

    private static void fourClauses() {
        ByThePound x = Says.sixPounds();
        Says.rule(x, "wet 4;worth 21;hours 13;price 17;");
        due("price", x.of(0, 1), 17);
        due("hours", x.of(0, 0), 13);
        due("worth", x.worth(0, 0), 21);
        due("wet", x.put(0, 0, 6, 5), -1);
        due("wet", x.put(0, 0, 6, 4), 2);
        String[] words = {"price", "hours", "worth", "wet"};
        for (String word : words) {
            Says.faultless(word + " 1;");
            Says.faulty(word, 1, word.length());
            Says.faulty(word + ";", 1, word.length());
            Says.faulty(word + "-1", 1, word.length() + 2);
            Says.faulty(word + "-1=1;", 1, word.length() + 2);
            Says.faulty(word + " not 1=1;", 1, word.length() + 1);
            Says.faulty(word + " 1;" + word + " 1;", 4, word.length() + 3);
        }
        Says.faulty("1;", 1, 0);
        Says.faulty("weight;", 1, 0);
        Says.faulty("not 1=1;", 1, 0);
    }

    private static void barsClause() {
        Says.faultless("bars 1=1;bars 1=1;");
        Says.faulty("bars", 1, 4);
        Says.faulty("bars;", 1, 4);
        Says.faulty("bars 1=1", 1, 8);
        Says.faulty("bars 1;", 1, 6);
        Says.asked("1=1", true);
        Says.asked("1=2", false);
        Says.asked("1=2;bars 1=1", true);
        Says.asked("1=1;bars 1=2", true);
    }

    private static void either() {
        Says.asked("1=2 or 1=1", true);
        Says.asked("1=2 or 1=2", false);
        Says.asked("1=2 or 1=2 or 1=1", true);
        Says.asked("1=1 or 1=2 or 1=2", true);
        Says.asked("1=2 or 1=1 or 1=2", true);
        Says.asked("1=2 or 1=2 or 1=2", false);
        Says.asked("1=1 or 1=2 and 1=2", true);
        Says.asked("1=2 and 1=2 or 1=1", true);
        Says.asked("1=2 and 1=1 or 1=2 and 1=1", false);
        Says.asked("1=2 and 1=1 or 1=1 and 1=1 or 1=2", true);
        Says.faulty("bars or 1=1;", 1, 5);
        Says.faulty("bars 1=1 or;", 1, 11);
        Says.faulty("bars 1=1 or or 1=1;", 1, 12);
        Says.faulty("price 1 or 2;", 1, 8);
    }

    private static void both() {
        Says.asked("1=1 and 1=1", true);
        Says.asked("1=1 and 1=2", false);
        Says.asked("1=1 and 1=1 and 1=1", true);
        Says.asked("1=2 and 1=1 and 1=1", false);
        Says.asked("1=1 and 1=2 and 1=1", false);
        Says.asked("1=1 and 1=1 and 1=2", false);
        Says.faulty("bars and 1=1;", 1, 5);
        Says.faulty("bars 1=1 and;", 1, 12);
        Says.faulty("bars 1=1 and and 1=1;", 1, 13);
        Says.faulty("bars 1=1 and or 1=1;", 1, 13);
        Says.faulty("price 1 and 2;", 1, 8);
    }

    private static void ask() {
        String[] signs = {"<", "<=", ">", ">=", "=", "#"};
        boolean[][] due = {{true, false, false}, {true, true, false}, {false, false, true}, {false, true, true}, {false, true, false}, {true, false, true}};
        for (int i = 0; i < signs.length; i++) {
            Says.asked("4" + signs[i] + "5", due[i][0]);
            Says.asked("5" + signs[i] + "5", due[i][1]);
            Says.asked("6" + signs[i] + "5", due[i][2]);
            Says.asked("-6" + signs[i] + "-5", due[i][0]);
            Says.asked("1+4" + signs[i] + "2*3-1", due[i][1]);
            Says.asked("not 4" + signs[i] + "5", !due[i][0]);
            Says.asked("not 5" + signs[i] + "5", !due[i][1]);
            Says.asked("1=1 and 4" + signs[i] + "5", due[i][0]);
            Says.asked("6" + signs[i] + "5 and 1=1", due[i][2]);
        }
        Says.asked("not 1=2", true);
        Says.asked("not 1=1", false);
        Says.asked("not not 1=1", true);
        Says.asked("not not not 1=1", false);
        Says.asked("not 1=1 and 1=2", false);
        Says.asked("not 1=1 or 1=1", true);
        Says.asked("1=1 and not 1=2", true);
        Says.faulty("bars 1=1=1;", 1, 8);
        Says.faulty("bars (1=1);", 1, 7);
        Says.faulty("bars not;", 1, 8);
        Says.faulty("bars not 1;", 1, 10);
        Says.faulty("bars =1;", 1, 5);
        Says.faulty("bars 1=;", 1, 7);
        Says.faulty("bars 1=not 1;", 1, 7);
    }

    private static void sums() {
        Says.sum("5", 5);
        Says.sum("5+3", 8);
        Says.sum("5-3", 2);
        Says.sum("5-3+2-1", 3);
        Says.sum("2+3*4", 14);
        Says.sum("2*3+4", 10);
        Says.sum("20-8/4", 18);
        Says.faulty("price +1;", 1, 6);
        Says.faulty("price 1+;", 1, 8);
        Says.faulty("price 1-;", 1, 8);
        Says.faulty("price 1++1;", 1, 8);
        Says.faulty("price 1-+1;", 1, 8);
    }

    private static void products() {
        Says.sum("5*3", 15);
        Says.sum("15/3", 5);
        Says.sum("2*3*4/6*5", 20);
        Says.sum("2*(3+4)", 14);
        Says.faulty("price *1;", 1, 6);
        Says.faulty("price /1;", 1, 6);
        Says.faulty("price 1*;", 1, 8);
        Says.faulty("price 1/;", 1, 8);
        Says.faulty("price 1*/1;", 1, 8);
        Says.faulty("price 1*+1;", 1, 8);
    }

    private static void ones() {
        Says.sum("7", 7);
        Says.sum("weight", 6);
        Says.sum("(7)", 7);
        Says.sum("((7-2))", 5);
        Says.sum("-7", -7);
        Says.sum("--7", 7);
        Says.sum("---7", -7);
        Says.sum("-(2+3)", -5);
        Says.sum("-weight", -6);
        Says.sum("-2+5", 3);
        Says.sum("-2*3", -6);
        Says.sum("4--3", 7);
        Says.sum("4+-3", 1);
        Says.sum("4*-3", -12);
        Says.sum("12/-3", -4);
        Says.faulty("price ();", 1, 7);
        Says.faulty("price (1;", 1, 8);
        Says.faulty("price 1);", 1, 7);
        Says.faulty("price -;", 1, 7);
        Says.faulty("price (;", 1, 7);
        Says.faulty("price (1 2);", 1, 9);
        Says.faulty("price 2(3);", 1, 7);
        Says.faulty("price (1)(2);", 1, 9);
        Says.faulty("price weight size;", 1, 13);
    }

    private static void nameThing() {
        ByThePound x = new ByThePound();
        for (int i = 0; i <= 9; i++) {
            x.thing(50 + i, 2, 2, 0);
        }
        x.maker(9, 1023, 0);
        x.buyer(1, 0, 1, 1);
        Says.rule(x, "price thing+100;hours thing+200;worth thing+300;wet thing;bars thing=9;");
        for (int i = 0; i <= 9; i += 9) {
            int offer = x.offer(0, 0);
            due("put", x.put(offer, i, 2, 0), 1);
            due("in price", x.of(offer, 1), 100 + i);
            due("in hours", x.of(offer, 0), 200 + i);
            due("in worth", x.worth(0, offer), 300 + i);
            due("in bars", x.of(offer, 4), i == 9 ? 0 : 1);
            due("in wet", x.put(offer, i, 2, i + 1), -1);
            due("in wet", x.put(offer, i, 2, i), 2);
        }
    }

    private static void nameWeight() {
        ByThePound x = Says.sixPounds();
        Says.rule(x, "price weight;hours weight;worth weight+300;wet weight-4;bars weight#12;");
        x.drop(0);
        due("WEIGHT in wet", x.put(0, 0, 6, 3), -1);
        due("WEIGHT in wet", x.put(0, 0, 6, 2), 1);
        due("WEIGHED in price", x.of(0, 1), 12);
        due("WEIGHED in bars", x.of(0, 4), 1);
        due("WEIGHT in hours", x.of(0, 0), 6);
        due("WEIGHT in worth", x.worth(0, 0), 306);
        x.house(1, 140);
        due("WEIGHED in price", x.of(0, 1), 11);
        due("WEIGHED in bars", x.of(0, 4), 0);
        due("WEIGHT in hours", x.of(0, 0), 6);
        due("WEIGHT in worth", x.worth(0, 0), 306);
    }

    private static void nameSize() {
        ByThePound x = new ByThePound();
        x.thing(1, 2, 2, 0);
        x.thing(99, 2, 2, 0);
        x.maker(9, 3, 0);
        x.buyer(1, 0, 1, 1);
        Says.rule(x, "price size;hours size;worth size;wet size-95;bars size=99;");
        for (int i = 0; i <= 1; i++) {
            int size = i == 0 ? 1 : 99;
            x.offer(0, 1);
            x.put(i, i, 2, 0);
            due("in price", x.of(i, 1), size);
            due("in hours", x.of(i, 0), size);
            due("in worth", x.worth(0, i), size);
            due("in bars", x.of(i, 4), 1 - i);
            due("in wet", x.put(i, i, 2, i == 0 ? 1 : 5), -1);
        }
        due("in wet", x.put(1, 1, 2, 4), 2);
    }

    private static void nameTied() {
        ByThePound x = Says.sixPounds();
        Says.rule(x, "price tied;hours tied;worth tied;bars tied=2;");
        for (int tied = 1; tied <= 3; tied++) {
            due("in price, for each", x.of(0, 1), tied * tied);
            due("in hours, for each", x.of(0, 0), tied * tied);
            due("in worth, for each", x.worth(0, 0), tied * tied);
            due("in bars", x.of(0, 4), tied == 2 ? 0 : 1);
            x.put(0, 1, 1, 0);
        }
    }

    private static void nameTasteAndWant() {
        ByThePound x = Says.small();
        x.buyer(1, 0, 99, 9);
        x.buyer(1, 1, 0, 9);
        x.offer(0, 0);
        x.put(0, 0, 2, 0);
        x.offer(0, 0);
        x.put(1, 1, 2, 0);
        Says.rule(x, "worth taste+1000*(want+1);");
        due("99, wanted", x.worth(0, 0), 2099);
        due("99, not wanted", x.worth(0, 1), 1099);
        due("0, not wanted", x.worth(1, 0), 1000);
        due("0, wanted", x.worth(1, 1), 2000);
    }

    private static void fromTheLeft() {
        Says.sum("20-3-4", 13);
        Says.sum("20-3+4", 21);
        Says.sum("20-(3+4)", 13);
        Says.sum("100/7/2", 7);
        Says.sum("7/2*2", 6);
        Says.sum("2*7/4", 3);
        Says.sum("8/4/2", 1);
    }

    private static void cutsTowards0() {
        Says.sum("6/2", 3);
        Says.sum("7/2", 3);
        Says.sum("8/2", 4);
        Says.sum("-7/2", -3);
        Says.sum("7/-2", -3);
        Says.sum("-7/-2", 3);
        Says.sum("1/2", 0);
        Says.sum("-1/2", 0);
        Says.sum("(0-9)/5", -1);
    }

    private static void by0ItIs0() {
        Says.sum("5/0", 0);
        Says.sum("5/1", 5);
        Says.sum("-5/0", 0);
        Says.sum("0/0", 0);
        Says.sum("5/(weight-6)", 0);
        Says.sum("3+5/0*7", 3);
        Says.asked("1/0=0", true);
    }

    private static void above1000000() {
        Says.sum("9999*100+99-9999*100", 99);
        Says.sum("9999*100+100-9999*100", 100);
        Says.sum("9999*100+101-9999*100", 100);
        Says.sum("1000*1000-9999*100", 100);
        Says.sum("1001*999-9999*100", 99);
        Says.sum("1000*1001-9999*100", 100);
        Says.sum("9999*9999/1000", 1000);
        Says.sum("9999*9999*9999/1000", 1000);
        Says.sum("9999*9999*(9999*9999)/1000", 1000);
        Says.asked("1000*1000+1=1000*1000", true);
        Says.asked("1000*1000-1=1000*1000", false);
    }

    private static void belowTheSameLess() {
        Says.sum("-9999*100-99+9999*100", -99);
        Says.sum("-9999*100-100+9999*100", -100);
        Says.sum("-9999*100-101+9999*100", -100);
        Says.sum("9999*100-1000*1000", -100);
        Says.sum("-1000*1001+9999*100", -100);
        Says.sum("1000*-1001+9999*100", -100);
        Says.sum("-9999*9999*9999/1000", -1000);
        Says.sum("-(9999*9999)*(9999*9999)/1000", -1000);
        Says.asked("-1000*1000-1=-1000*1000", true);
        Says.asked("-1000*1000+1=-1000*1000", false);
    }

    private static void atEachStep() {
        Says.sum("1000*1000+1000-1000-9999*100", -900);
        Says.sum("-1000*1000-1000+1000+9999*100", 900);
        Says.sum("1000*2000/2-9999*50", 50);
        Says.sum("(1000*1000+1000)/2-9999*50", 50);
        Says.sum("1000*1000+(1000-1000)-9999*100", 100);
    }

    private static void bothSidesAlways() {
        String[] so = {"1=2", "1=1"};
        for (int a = 0; a <= 1; a++) {
            for (int b = 0; b <= 1; b++) {
                Says.asked(so[a] + " or " + so[b], a + b > 0);
                Says.asked(so[a] + " and " + so[b], a + b > 1);
                Says.asked("not " + so[a] + " or " + so[b], 1 - a + b > 0);
                Says.asked(so[a] + " and not " + so[b], a + 1 - b > 1);
            }
        }
        Says.faulty("bars 1=1 or 1=10000;", 2, 14);
        Says.faulty("bars 1=2 and 1=10000;", 2, 15);
        Says.asked("1=2 and 1/0=0 or 1/0=0", true);
    }

    private static void theFirst() {
        Says.faulty("price taste+10000;", 5, 6);
        Says.faulty("price 10000+taste;", 2, 6);
        Says.faulty("price 10000", 2, 6);
        Says.faulty("price 1 10000", 1, 8);
        Says.faulty("hours 1;hours 10000;", 4, 8);
        Says.faulty("hours 10000;hours 1;", 2, 6);
        Says.faulty("price (taste", 5, 7);
        Says.faulty("price " + times("(", 9) + "10000", 3, 14);
        Says.faulty("price " + times("(", 8) + "10000(", 2, 14);
        Says.faulty("bars 1=1;bars 10000=1;" + times(BARRED, 9), 2, 14);
    }

    private static void atItsFirstByte() {
        Says.faulty("priced 1;", 1, 0);
        Says.faulty("  priced 1;", 1, 2);
        Says.faulty("price 1;\n  hour 1;", 1, 11);
        Says.faulty("price   12345678;", 2, 8);
        Says.faulty("bars 1=2  <=3;", 1, 10);
        Says.faulty("wet 1; wet 1;", 4, 7);
        Says.faulty("wet  want;", 5, 5);
    }

    private static void ofTheEndAtTheLength() {
        Says.faulty("price", 1, 5);
        Says.faulty("price 1", 1, 7);
        Says.faulty("price 1  \n", 1, 10);
        Says.faulty("bars 1=1 or", 1, 11);
        Says.faulty("bars not", 1, 8);
        Says.faulty("price (1", 1, 8);
        Says.faulty("price " + times("(", 8), 1, 14);
        Says.faulty("price 1" + times(" ", 293), 1, 300);
        Says.faulty("price 1" + times(" ", 292), 1, 299);
    }

    private static void ofOneTheLeast() {
        Says.faulty("price 1 10000;", 1, 8);
        Says.faulty("10000;", 1, 0);
        Says.faulty("price " + times("(", 8) + "1(", 1, 15);
        Says.faulty("bars " + times("not ", 8) + "1 not", 1, 39);
        Says.faulty("price 1 price 2;", 1, 8);
        Says.faulty("price price 2;", 1, 6);
        Says.faulty("price 1 taste;", 1, 8);
        Says.faulty("taste;", 1, 0);
        Says.faulty("price 1;" + times(BARRED, 9) + "price 2;", 4, 89);
        Says.faulty("wet 1;" + times(BARRED, 9) + "wet", 4, 87);
        Says.faulty("price 1;" + times(BARRED, 9) + "hours 2;", 6, 89);
        Says.faulty(times(BARRED, 10) + "taste", 1, 90);
        Says.faulty(times(BARRED, 10) + "10000", 1, 90);
    }

    private static void fault1() {
        Says.faulty("price $;", 1, 6);
        Says.faulty("price foo;", 1, 6);
        Says.faulty("price \u0000;", 1, 6);
        Says.faulty("price \u00ff;", 1, 6);
        Says.faulty("price hours;", 1, 6);
        Says.faulty("price <;", 1, 6);
        Says.faulty("price or;", 1, 6);
        Says.faulty("price 1 bars 1=1;", 1, 8);
        Says.faulty("price 1!;", 1, 7);
        Says.faulty("bars 1 $ 1;", 1, 7);
        Says.faulty("bars 1=1 xor 1=1;", 1, 9);
        Says.faulty("price 1;)", 1, 8);
        Says.faultless("price 1;");
    }

    private static void fault2() {
        Says.faultless("price 9999;");
        Says.faulty("price 10000;", 2, 6);
        Says.faulty("price 99999;", 2, 6);
        Says.faulty("hours 10000;", 2, 6);
        Says.faulty("worth -10000;", 2, 7);
        Says.faulty("wet (10000);", 2, 5);
        Says.faulty("bars 9999<10000;", 2, 10);
        Says.faulty("price " + times("9", 290) + ";", 2, 6);
        Says.faulty("price 4294967296;", 2, 6);
        Says.faulty("price 4294967297000000000000;", 2, 6);
        Says.faultless("price 000009999;");
        Says.faulty("price 000010000;", 2, 6);
        Says.faultless("price " + times("0", 293) + ";");
    }

    private static void fault3() {
        Says.faultless("price " + times("(", 8) + "1" + times(")", 8) + ";");
        Says.faulty("price " + times("(", 9) + "1" + times(")", 9) + ";", 3, 14);
        Says.faultless("price " + times("-", 8) + "1;");
        Says.faulty("price " + times("-", 9) + "1;", 3, 14);
        Says.faultless("bars " + times("not ", 8) + "1=1;");
        Says.faulty("bars " + times("not ", 9) + "1=1;", 3, 37);
        Says.faultless("bars " + times("not ", 3) + times("(", 3) + "--1" + times(")", 3) + "=1;");
        Says.faulty("bars " + times("not ", 3) + times("(", 3) + "---1" + times(")", 3) + "=1;", 3, 22);
        Says.faulty("bars " + times("not ", 3) + times("(", 4) + "--1" + times(")", 4) + "=1;", 3, 22);
        Says.faulty("bars " + times("not ", 8) + "(1)=1;", 3, 37);
        Says.faulty("bars " + times("not ", 8) + "1=(1);", 3, 39);
        Says.faulty("bars " + times("not ", 8) + "1=-1;", 3, 39);
        Says.faulty("price " + times("-(", 4) + "(1)" + times(")", 4) + ";", 3, 14);
        Says.faultless("price " + times("-(", 4) + "1" + times(")", 4) + ";");
    }

    private static void fault3SideBySide() {
        Says.faultless("price (1)" + times("+(1)", 9) + ";");
        Says.faultless("price -1" + times("*-1", 9) + ";");
        Says.faultless("price -1" + times("+-1", 9) + ";");
        Says.faultless("bars not 1=1" + times(" and not 1=1", 9) + ";");
        Says.faultless("bars not 1=1" + times(" or not 1=1", 9) + ";");
        Says.faultless("price " + times("(", 8) + "1" + times(")", 8) + "+" + times("(", 8) + "1" + times(")", 8) + ";");
        Says.faultless("price (" + times("(", 7) + "1" + times(")", 7) + "*" + times("-", 7) + "1);");
        Says.faultless("bars " + times("not ", 8) + "1=1 and " + times("not ", 8) + "1=1;");
        Says.faultless("bars " + times("not ", 4) + "((((1))))<----1;");
        Says.faultless("bars " + times("not ", 8) + "1=1;price " + times("(", 8) + "1" + times(")", 8) + ";");
        Says.faulty("price " + times("(", 8) + "1" + times(")", 8) + "+" + times("(", 9), 3, 32);
    }

    /** The - between two PRODUCTS isn't one that is open. */
    private static void fault3OfOneOne() {
        Says.faultless("price " + times("(", 8) + "1-1" + times(")", 8) + ";");
        Says.faulty("price " + times("(", 8) + "1--1" + times(")", 8) + ";", 3, 16);
        Says.faultless("price 1" + times("-1", 20) + ";");
        Says.faultless("price " + times("-", 8) + "1-1;");
        Says.faulty("price 1-" + times("-", 9) + "1;", 3, 16);
    }

    private static void fault4() {
        String[] words = {"price", "hours", "worth", "wet"};
        for (String word : words) {
            Says.faulty(word + " 1; " + word + " 2;", 4, word.length() + 4);
            Says.faulty(word + " 1;bars 1=1;" + word, 4, word.length() + 12);
            for (String other : words) {
                if (!other.equals(word)) {
                    Says.faultless(word + " 1;" + other + " 2;");
                }
            }
        }
        Says.faultless("bars 1=1;bars 1=1;");
    }

    private static void fault5() {
        Says.faulty("price taste;", 5, 6);
        Says.faulty("price want;", 5, 6);
        Says.faulty("hours 1+taste;", 5, 8);
        Says.faulty("hours (want);", 5, 7);
        Says.faulty("wet -taste;", 5, 5);
        Says.faulty("wet 2*want;", 5, 6);
        Says.faulty("bars taste=1;", 5, 5);
        Says.faulty("bars 1=1 or not 1<want;", 5, 18);
        Says.faultless("worth taste*want;");
        Says.faulty("worth taste;price taste;", 5, 18);
        Says.faultless("price thing+weight+size+tied;hours thing+weight+size+tied;");
        Says.faultless("worth thing+weight+size+tied;wet thing+weight+size+tied;bars thing+weight+size+tied=1;");
    }

    private static void fault6() {
        Says.faultless(times(BARRED, 10));
        Says.faulty(times(BARRED, 10) + "bars 1=1;", 6, 90);
        Says.faulty(times(BARRED, 10) + "  bars", 6, 92);
        Says.faulty(times(BARRED, 10) + "wet 10000;", 6, 90);
        Says.faulty(times(BARRED, 10) + "price ;", 6, 90);
        Says.faultless(times(BARRED, 10) + "  \n");
    }

    private static void byTheText() {
        ByThePound x = Says.sixPounds();
        due("at first none", x.about(5), -1);
        due("price", x.of(0, 1), 9);
        due("it isn't told yet", x.by(0), false);
        Says.read(x, "price 77;");
        due("told, but not THE TEXT", x.of(0, 1), 9);
        due("by", x.by(0), true);
        due("by THE TEXT", x.of(0, 1), 77);
        Says.read(x, "price 78;");
        due("still the first", x.of(0, 1), 77);
        x.by(1);
        due("by the other", x.of(0, 1), 78);
        x.by(-1);
        due("by none", x.of(0, 1), 9);
    }

    /** The most water that a new item of 4 pounds may have, by the text; the item is put and dropped. */
    private static void wettest(String s, int most) {
        ByThePound x = Says.small();
        x.offer(0, 0);
        Says.rule(x, s);
        due(s + ": " + most, x.put(0, 0, 4, most), 1);
        due(s + ": more", x.put(0, 0, 4, most + 1), -1);
    }

    private static void wet() {
        wettest("wet 0-1;", 0);
        wettest("wet 0;", 0);
        wettest("wet 1;", 1);
        wettest("wet 8;", 8);
        wettest("wet 9;", 9);
        wettest("wet 10;", 9);
        wettest("wet 9999;", 9);
        wettest("wet 0-9999;", 0);
    }

    private static void wetWithout() {
        wettest("", 0);
        wettest("price 5;hours 3;worth 4;", 0);
        wettest("price 5;wet 5;", 5);
    }

    private static void wetTiedBeing1() {
        ByThePound x = Says.small();
        Says.rule(x, "wet 3*tied;");
        x.offer(0, 0);
        due("none is there", x.put(0, 0, 4, 4), -1);
        due("none is there", x.put(0, 0, 4, 3), 1);
        due("one is there", x.put(0, 0, 4, 4), -1);
        due("one is there", x.put(0, 0, 4, 3), 2);
        due("two are there", x.put(0, 0, 4, 4), -1);
        due("two are there", x.put(0, 0, 4, 3), 3);
    }

    /** WEIGHED, as the PRICE without a clause. */
    private static void weighedAs(int weight, int water, int percent, int want) {
        ByThePound x = new ByThePound();
        x.thing(5, 1, 40, 0);
        x.maker(9, 1, 0);
        x.house(2, percent);
        Says.rule(x, "wet 9;");
        x.offer(0, 2);
        due("put", x.put(0, 0, weight, water), 1);
        due(weight + " and " + water + " at " + percent, x.of(0, 1), want);
    }

    private static void weighed() {
        weighedAs(7, 0, 100, 7);
        weighedAs(5, 2, 100, 7);
        weighedAs(5, 1, 50, 3);
        weighedAs(5, 2, 50, 3);
        weighedAs(1, 0, 50, 0);
        weighedAs(1, 0, 99, 0);
        weighedAs(2, 0, 50, 1);
        weighedAs(3, 0, 150, 4);
        weighedAs(40, 9, 150, 73);
        weighedAs(33, 0, 103, 33);
        weighedAs(34, 0, 103, 35);
    }

    /** HOURS of an item of this weight and three pounds of water. */
    private static void hoursAre(String s, int weight, int want) {
        ByThePound x = new ByThePound();
        x.thing(5, 1, 40, 0);
        x.maker(9, 1, 0);
        x.house(2, 150);
        Says.rule(x, s + "wet 3;");
        x.offer(0, 2);
        due("put", x.put(0, 0, weight, 3), 1);
        due(s + " of " + weight, x.of(0, 0), want);
    }

    private static void hours() {
        hoursAre("hours 0-9;", 4, 1);
        hoursAre("hours 0;", 4, 1);
        hoursAre("hours 1;", 4, 1);
        hoursAre("hours 2;", 4, 2);
        hoursAre("hours 998;", 4, 998);
        hoursAre("hours 999;", 4, 999);
        hoursAre("hours 1000;", 4, 999);
        hoursAre("hours 9999*9999;", 4, 999);
        hoursAre("hours weight;", 4, 4);
    }

    private static void hoursWithout() {
        hoursAre("", 1, 1);
        hoursAre("", 3, 1);
        hoursAre("", 4, 2);
        hoursAre("", 7, 2);
        hoursAre("", 8, 3);
        hoursAre("price 5;", 40, 11);
    }

    private static void priceIs(String s, int want) {
        ByThePound x = Says.sixPounds();
        Says.rule(x, s);
        due(s, x.of(0, 1), want);
    }

    private static void price() {
        priceIs("price 0-9;", 0);
        priceIs("price 0-1;", 0);
        priceIs("price 0;", 0);
        priceIs("price 1;", 1);
        priceIs("price 9998;", 9998);
        priceIs("price 9999;", 9999);
        priceIs("price 9999+1;", 9999);
        priceIs("price 9999*9999;", 9999);
    }

    private static void priceWithout() {
        priceIs("", 9);
        priceIs("hours 5;worth 4;wet 3;", 9);
        ByThePound x = Says.sixPounds();
        due("by no text at all", x.of(0, 1), 9);
    }

    private static void worth() {
        Says.sum("-9999-1", -9999);
        Says.sum("-9999", -9999);
        Says.sum("-9998", -9998);
        Says.sum("-9999*9999", -9999);
        Says.sum("0", 0);
        Says.sum("9998", 9998);
        Says.sum("9999", 9999);
        Says.sum("9999+1", 9999);
        Says.sum("9999*9999", 9999);
    }

    private static void worthWithout() {
        ByThePound x = Says.sixPounds();
        x.buyer(1, 1, 8, 99);
        due("what is wanted", x.worth(0, 0), 7);
        due("what isn't", x.worth(1, 0), 0);
        Says.rule(x, "price 5;hours 4;");
        due("what is wanted", x.worth(0, 0), 7);
        due("what isn't", x.worth(1, 0), 0);
        x.drop(0);
        x.put(0, 1, 1, 0);
        due("what isn't", x.worth(0, 0), 0);
        due("what is wanted", x.worth(1, 0), 8);
    }

    private static void cost() {
        ByThePound x = new ByThePound();
        x.thing(5, 1, 40, 7);
        x.maker(9, 1, 11);
        x.house(0, 150);
        Says.rule(x, "wet 9;");
        x.offer(0, 0);
        x.put(0, 0, 5, 9);
        due("2 hours and 5 pounds of stuff, water costs nothing", x.of(0, 2), 2 * 11 + 7 * 5);
        Says.rule(x, "hours 3;");
        due("3 hours", x.of(0, 2), 3 * 11 + 7 * 5);
        Says.rule(x, "hours 0;");
        due("an hour at least", x.of(0, 2), 11 + 7 * 5);
    }

    private static void together() {
        ByThePound x = new ByThePound();
        x.thing(5, 1, 40, 2);
        x.thing(6, 1, 40, 3);
        x.maker(9, 3, 10);
        x.buyer(1, 1, 5, 99);
        x.house(3, 50);
        x.offer(0, 3);
        due("hours of nothing", x.of(0, 0), 0);
        due("price of nothing", x.of(0, 1), 0);
        due("cost of nothing", x.of(0, 2), 0);
        due("worth of nothing", x.worth(0, 0), 0);
        x.put(0, 0, 3, 0);
        x.put(0, 0, 5, 0);
        x.put(0, 1, 7, 0);
        due("hours", x.of(0, 0), 1 + 2 + 2);
        due("price, each cut by itself", x.of(0, 1), 1 + 2 + 3);
        due("cost", x.of(0, 2), 50 + 6 + 10 + 21);
        due("worth", x.worth(0, 0), 5);
        Says.rule(x, "price 9999;hours 999;worth 9999;");
        due("hours above 999", x.of(0, 0), 2997);
        due("price above 9999", x.of(0, 1), 29997);
        due("worth above 9999", x.worth(0, 0), 29997);
        due("cost above 9999", x.of(0, 2), 29970 + 6 + 10 + 21);
        Says.rule(x, "worth -9999;");
        due("worth below -9999", x.worth(0, 0), -29997);
    }

    private static void load() {
        ByThePound x = Says.small();
        x.house(0, 50);
        Says.rule(x, "wet 5;");
        x.offer(0, 0);
        due("of nothing", x.of(0, 3), 0);
        x.put(0, 0, 8, 5);
        due("weight and water, not what is weighed", x.of(0, 3), 13);
        x.put(0, 1, 3, 0);
        due("of two", x.of(0, 3), 16);
        x.put(0, 1, 1, 1);
        due("of three", x.of(0, 3), 18);
    }

    private static void lawful() {
        ByThePound x = Says.small();
        x.offer(0, 0);
        Says.rule(x, "bars thing=1;bars weight>7;");
        due("without items", x.of(0, 4), 1);
        x.put(0, 0, 7, 0);
        due("neither is so", x.of(0, 4), 1);
        x.put(0, 0, 8, 0);
        due("the second is so for the second item", x.of(0, 4), 0);
        x.drop(0);
        x.put(0, 1, 1, 0);
        x.put(0, 0, 7, 0);
        due("the first is so for the first item", x.of(0, 4), 0);
        x.drop(0);
        x.put(0, 0, 4, 0);
        x.put(0, 0, 4, 0);
        due("each by itself, not their pounds together", x.of(0, 4), 1);
        Says.rule(x, BARRED);
        due("both are barred", x.of(0, 4), 0);
        x.drop(0);
        due("without items there is none that is", x.of(0, 4), 1);
        x.put(0, 0, 8, 0);
        x.by(-1);
        due("without a text", x.of(0, 4), 1);
    }

    private static void waterAboveWetNow() {
        ByThePound x = Says.small();
        x.buyer(1, 0, 99, 9);
        x.buyer(1, 0, 99, 8);
        x.offer(0, 0);
        Says.rule(x, "wet 5;");
        x.put(0, 0, 4, 5);
        Says.rule(x, "wet 2;");
        due("it stays", x.of(0, 30), 5);
        due("it is weighed", x.of(0, 1), 9);
        due("it is carried", x.of(0, 3), 9);
        due("who carries 9", x.likes(0), 0);
        due("who carries 8", x.likes(1), -1);
        x.by(-1);
        due("it is weighed", x.of(0, 1), 9);
        due("but no more is put", x.put(0, 0, 4, 1), -1);
    }

    private static void due(String call, long got, long want) {
        Says.due(call, got, want);
    }

    private static void due(String call, boolean got, boolean want) {
        Says.due(call, got, want);
    }

    private static void grammar() {
        Says.says("II", "TEXTS 0 .. 5", TextSentences::texts);
        Says.says("II", "of up to 300 bytes.", TextSentences::upTo300Bytes);
        Says.says("II", "TOKENS, blanks (32, 10) aside", TextSentences::blanksAside);
        Says.says("II", "letters a .. z, A .. Z one behind the other (one TOKEN)", TextSentences::letters);
        Says.says("II", "digits likewise (NUMBERS, 0 .. 9999)", TextSentences::digits);
        Says.says("II", "<= >= < > = # + - * / ( ) ; (the longest).", TextSentences::theLongest);
        Says.says("II", "{CLAUSE}, 10 at most", TextSentences::clauses);
        Says.says("II", "price SUM ; or hours SUM ; or worth SUM ; or wet SUM ; (each once)", TextSentences::fourClauses);
        Says.says("II", "or bars EITHER ;.", TextSentences::barsClause);
        Says.says("II", "EITHER: BOTH {or BOTH}.", TextSentences::either);
        Says.says("II", "BOTH: ASK {and ASK}.", TextSentences::both);
        Says.says("II", "ASK: not ASK, or SUM one of < <= > >= = # (unlike) SUM.", TextSentences::ask);
        Says.says("II", "SUM: PRODUCT {+ or - PRODUCT}.", TextSentences::sums);
        Says.says("II", "PRODUCT: ONE {* or / ONE}.", TextSentences::products);
        Says.says("II", "ONE: NUMBER, NAME, ( SUM ), - ONE.", TextSentences::ones);
        Says.says("II", "NAMES: thing (its number)", TextSentences::nameThing);
        Says.says("II", "weight (WEIGHED in price and bars, WEIGHT else)", TextSentences::nameWeight);
        Says.says("II", "size", TextSentences::nameSize);
        Says.says("II", "tied (how many ITEMS there are)", TextSentences::nameTied);
        Says.says("II", "in worth: taste, want (1, if it is what the BUYER WANTS, else 0).", TextSentences::nameTasteAndWant);
        Says.says("II", "From the left", TextSentences::fromTheLeft);
        Says.says("II", "/ cuts towards 0", TextSentences::cutsTowards0);
        Says.says("II", "by 0 it is 0", TextSentences::by0ItIs0);
        Says.says("II", "what is above 1000000", TextSentences::above1000000);
        Says.says("II", "(below the same less) is that", TextSentences::belowTheSameLess);
        Says.says("II", "at each step.", TextSentences::atEachStep);
        Says.says("II", "or and and look at both sides always.", TextSentences::bothSidesAlways);
    }

    private static void faults() {
        Says.says("II", "FAULTS, the first as TOKENS are come to", TextSentences::theFirst);
        Says.says("II", "at the TOKEN's first byte", TextSentences::atItsFirstByte);
        Says.says("II", "(of the end at the length)", TextSentences::ofTheEndAtTheLength);
        Says.says("II", "of one the least", TextSentences::ofOneTheLeast);
        Says.says("II", "1 it can't stand there, or is none.", TextSentences::fault1);
        Says.says("II", "2 a NUMBER above 9999.", TextSentences::fault2);
        Says.says("II", "3 the 9th of ( not and -", TextSentences::fault3);
        Says.says("II", "(of one ONE)", TextSentences::fault3OfOneOne);
        Says.says("II", "that are open around one another (at it).", TextSentences::fault3SideBySide);
        Says.says("II", "4 a word that stands once for the second time (at it).", TextSentences::fault4);
        Says.says("II", "5 a NAME that isn't of that CLAUSE (at it).", TextSentences::fault5);
        Says.says("II", "6 the 11th CLAUSE (at its first TOKEN).", TextSentences::fault6);
    }

    private static void byIt() {
        Says.says("II", "By THE TEXT (told; at first none) of an ITEM", TextSentences::byTheText);
        Says.says("II", "WET: wet (0 at least, 9 at most", TextSentences::wet);
        Says.says("II", "9 at most; without 0", TextSentences::wetWithout);
        Says.says("II", "tied being 1).", TextSentences::wetTiedBeing1);
        Says.says("II", "WEIGHED: (WEIGHT + WATER) * PERCENT / 100, cut.", TextSentences::weighed);
        Says.says("II", "HOURS: hours (1 at least, 999 at most", TextSentences::hours);
        Says.says("II", "without 1 + WEIGHT / 4).", TextSentences::hoursWithout);
        Says.says("II", "PRICE: price (0 at least, 9999 at most", TextSentences::price);
        Says.says("II", "without WEIGHED).", TextSentences::priceWithout);
        Says.says("II", "WORTH to a BUYER: worth (-9999 at least, 9999 at most", TextSentences::worth);
        Says.says("II", "without TASTE if it is what is WANTED, else 0).", TextSentences::worthWithout);
        Says.says("II", "COST: HOURS * WAGE + STUFF * WEIGHT.", TextSentences::cost);
        Says.says("II", "Of an OFFER: HOURS, PRICE, WORTH, COST of its ITEMS together", TextSentences::together);
        Says.says("II", "LOAD: WEIGHT and WATER of all.", TextSentences::load);
        Says.says("II", "LAWFUL: no bars clause is so for an ITEM of it.", TextSentences::lawful);
        Says.says("II", "WATER that is above WET now counts as it is.", TextSentences::waterAboveWetNow);
    }

    static void all() {
        grammar();
        faults();
        byIt();
    }
}
