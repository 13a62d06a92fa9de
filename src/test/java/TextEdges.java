/** Terms II and what promises 17 to 21 say of its edges, sentence by sentence. */
public final class TextEdges extends Due {
    private static String times(String text, int n, String between) {
        StringBuilder all = new StringBuilder(text);
        for (int i = 1; i < n; i++) {
            all.append(between).append(text);
        }
        return all.toString();
    }

    private static String brackets(String open, String within, String close) {
        return open + within + close;
    }

    private static void lawsAreSix() {
        begin("LAWS are TEXTS, 6 at most; one is in FORCE (NONE at first)");
        m.heir(0, 0);
        m.thing(1, 1, 0);
        due("count(14)", m.count(14), NONE);
        due("force(-1)", m.force(-1), NONE);
        for (int i = 0; i < 6; i++) {
            due("law " + i, law("claims " + (10 + i)), i);
            due("count(4)", m.count(4), i + 1);
            due("claim(0, 0, 0): none is in force yet", m.claim(0, 0, 0), 1);
        }
        due("law 6", law("claims 99"), -5);
        for (int i = 0; i < 6; i++) {
            due("force(" + i + ")", m.force(i), i - 1);
            due("claim(0, 0, 0)", m.claim(0, 0, 0), 10 + i);
        }
        due("force(6)", m.force(6), -2);
        due("force(-2)", m.force(-2), -2);
        due("count(14): as it was", m.count(14), 5);
        due("force(5), the same", m.force(5), 5);
        due("force(-1)", m.force(-1), 5);
        due("force(-1), the same", m.force(-1), NONE);
        due("claim(0, 0, 0): without a clause", m.claim(0, 0, 0), 1);
    }

    private static void tapeOf400() {
        begin("a TAPE of at most 400 bytes");
        String long400 = times(" ", 200, "") + "claims 7" + times(" ", 192, "");
        due("a law of 400 bytes", law(long400), 0);
        m.heir(0, 0);
        m.thing(1, 1, 0);
        m.force(0);
        due("claim(0, 0, 0)", m.claim(0, 0, 0), 7);
        faulty(times(" ", 400, ""), 400);
        faulty(times(" ", 399, "") + "x", 399);
        faulty(times("a", 400, ""), 0);
        faulty("claims " + times("1", 393, ""), 7);
        due("a number of 393 digits", law("claims " + times("0", 392, "") + "8"), 1);
        m.force(1);
        due("claim(0, 0, 0)", m.claim(0, 0, 0), 8);
        due("64 times not", law("bars if " + times("not", 64, " ") + " 1=1"), 2);
        m.force(2);
        due("claim(0, 0, 0)", m.claim(0, 0, 0), 0);
        due("65 times not", law("bars if " + times("not", 65, " ") + " 1=1"), 3);
        m.force(3);
        due("claim(0, 0, 0)", m.claim(0, 0, 0), 1);
        faulty("bars if " + times("not", 98, " "), 399);
        due("orders of 400 bytes", orders("wait" + times(" ", 392, "") + "    "), 1);
        faultyOrders(times("(", 400, ""), 0);
    }

    private static void tokens() {
        begin("TOKENS: longest rows of letters, of digits, single other bytes, any blanks between");
        faulty("", 0);
        faulty(" ", 1);
        faulty("claim", 0);
        faulty("claimss 1", 0);
        faulty("claims1x", 7);
        faulty("claims x1", 8);
        faulty("claims 1 0", 9);
        faulty("claims xy", 7);
        faulty("claims x y", 9);
        faulty("cla ims 1", 0);
        faulty("Claims 1", 0);
        faulty("claims A", 7);
        faulty("claims `", 7);
        faulty("claims {", 7);
        faulty("claims /", 7);
        faulty("claims :", 7);
        faulty("claims\t1", 6);
        faulty("claims\n1", 6);
        faulty("claims\0", 6);
        faulty("claims 1\0", 8);
        faulty("claims 1\37", 8);
        faulty("claims 1!", 8);
        faulty("claims 1\240", 8);
        faulty("claims 1 \377", 9);
        faulty("fogsif 1=1", 0);
        faulty("fogs if1=1 or2=2 and3", 21);
        faulty("bars if 1==1", 10);
        faulty("bars if 1<=1", 10);
        faulty("claims 1++1", 9);
        due("law() without blanks", law("claims[x+1]*2if(x=1or y=2)and not(1=2);fogs"), 0);
        due("law() with many", law("  claims   1   +   2   if   x   <   1   ;   bars   "), 1);
        due("law(): digits end a word, words end digits", law("claims1if2=2or3=3;bars"), 2);
        due("fault()", m.fault(), NONE);
    }

    private static void clauses() {
        begin("CLAUSE {\";\" CLAUSE}, 12 at most (FAULT at the 13th's first TOKEN)");
        due("eleven", law(times("fogs", 11, ";")), 0);
        due("twelve", law(times("fogs", 12, ";")), 1);
        faulty(times("fogs", 13, ";"), 60);
        faulty(times("fogs", 12, ";") + ";  bars", 62);
        faulty(times("fogs", 12, ";") + "  ;  claims 1", 64);
        faulty(times("fogs", 12, ";") + ";", 60);
        faulty(times("fogs", 12, ";") + ";   ", 63);
        faulty(times("fogs", 12, ";") + ";;", 60);
        faulty(times("fogs", 12, ";") + ";9", 60);
        faulty(times("fogs", 12, ";") + " fogs", 60);
        faulty(times("fogs", 11, ";") + ";9;fogs", 55);
        faulty(times("fogs", 11, ";") + ";", 55);
        faulty(";fogs", 0);
        faulty("fogs;;fogs", 5);
        faulty("fogs;", 5);
        m.heir(0, 0);
        m.thing(1, 1, 0);
        due("the twelfth tells", law(times("claims 3", 11, ";") + ";claims 4"), 2);
        m.force(2);
        due("claim(0, 0, 0)", m.claim(0, 0, 0), 4);
        due("the twelfth bars", law(times("claims 3", 11, ";") + ";bars"), 3);
        m.force(3);
        due("claim(0, 0, 0)", m.claim(0, 0, 0), 0);
        m.put(2, 2);
        due("glance(0, 10)", m.glance(0, 10), 2);
        due("the twelfth fogs", law(times("claims 3", 11, ";") + ";fogs"), 4);
        m.force(4);
        due("glance(0, 10)", m.glance(0, 10), NONE);
    }

    private static void grammar() {
        begin("FAULT: the first TOKEN that can't go on there (the end's: the TEXT's length)");
        String[] ends = {"claims", "claims 1+", "claims 1-", "claims 1*", "claims 1/", "claims 1%", "claims [", "claims [1", "claims [1+",
            "fogs if", "fogs if not", "fogs if (", "fogs if x", "fogs if x<", "fogs if (x<1", "fogs if x=1 and", "fogs if x=1 or",
            "fogs if [", "fogs if [x", "fogs if [x]", "fogs;", "fogs if x=1;", "claims 1 if", "bars if not ("};
        for (String text : ends) {
            faulty(text, text.length());
            faulty(text + "   ", text.length() + 3);
        }
        faulty("bars 1", 5);
        faulty("fogs x", 5);
        faulty("claims if 1=1", 7);
        faulty("claims 1 bars", 9);
        faulty("claims 1 if 1", 13);
        faulty("claims 1 if 1=1 if 1=1", 16);
        faulty("claims 1 times 2", 9);
        faulty("claims (x)", 7);
        faulty("claims [x)", 9);
        faulty("claims x]", 8);
        faulty("claims []", 8);
        faulty("bars if ()", 9);
        faulty("bars if (1)", 10);
        faulty("bars if (1=1))", 13);
        faulty("bars if (1=1]", 12);
        faulty("bars if [1=1]", 10);
        faulty("bars if (x)=1", 10);
        faulty("bars if 1=1=1", 11);
        faulty("bars if 1=not 1=1", 10);
        faulty("bars if and", 8);
        faulty("bars if 1=1 and or 1=1", 16);
        faulty("bars if 1=1 not 1=1", 12);
        faulty("bars if -1=1", 8);
        faulty("bars if 1 2", 10);
        faulty("bars if x y<1", 10);
        faulty("bars if (1 2)", 11);
        faulty("bars if 1+1 1=1", 12);
        faulty("claims +1", 7);
        for (String word : new String[] {"pivots", "done", "rent", "estate", "sees", "to", "times", "glances", "hours", "z", "claims"}) {
            faulty("claims " + word, 7);
        }
        due("law() of all words", law("claims x+y+glance+hour+heir+age+thing+worth+high+lit"), 0);
        due("law()", law("bars if not not (not (1=1) or ((2>1))) and [x]=[[y]]"), 1);
    }

    private static void numbers() {
        begin("NUMBER (to 1,000)");
        claims("claims 0", 0);
        claims("claims 1000-1", 999);
        claims("claims 1000-[999-1]", 2);
        claims("claims 0000000000000000000000000000000001000/1000", 1);
        again();
        faulty("claims 1001", 7);
        faulty("claims 5+1001", 9);
        faulty("claims 01001", 7);
        faulty("claims 4294967297", 7);
        faulty("claims 4294967296", 7);
        faulty("claims 2147483648", 7);
        faulty("claims 18446744073709551617", 7);
        faulty("claims 1 if x<1001", 14);
        faultyOrders("turn 1001", 5);
        faultyOrders("turn 1 if 10000=1", 10);
    }

    private static void parts() {
        begin("50 PARTS that are NUMBERS and words (FAULT at the 51st)");
        String fifty = "claims " + times("1", 50, "+");
        claims(fifty, 50);
        claims("claims " + times("[1]", 50, "+"), 50);
        claims("claims " + times("1", 9, "+") + ";claims " + times("x+y", 20, "+") + "+2", 42);
        again();
        faulty(fifty + "+1", fifty.length() + 1);
        faulty(fifty + "+x", fifty.length() + 1);
        faulty(fifty + "+[1]", fifty.length() + 2);
        faulty(fifty + "+", fifty.length() + 1);
        faulty(fifty + "+]", fifty.length() + 1);
        faulty(fifty + " if 1=1", fifty.length() + 4);
        faulty(fifty + ";claims 1", fifty.length() + 8);
        faulty(fifty + ";bars if not (hour=1)", fifty.length() + 14);
        due("clauses without parts behind 50", law(fifty + ";bars;fogs"), 0);
        String tests = "bars if " + times("1=1", 24, " or ") + " or x=y";
        due("50 parts in a test", law(tests), 1);
        faulty(tests + " and 1=1", tests.length() + 5);
        due("49 parts", law("claims " + times("1", 49, "+")), 2);
        begin("H, T, TIMES aside, NUMBERS and words count as PARTS");
        String sees = "turn " + times("sees 0 0", 25, "+") + "+25";
        String orders = sees + " times 20 if " + times("1", 12, "+") + "=" + times("1", 12, "+");
        due("orders() of 50 parts", orders(orders), -3);
        faultyOrders(orders + "+1", orders.length() + 1);
        faultyOrders(orders + "+hour", orders.length() + 1);
        faultyOrders(orders + "+sees 0 0", orders.length() + 1);
        faultyOrders(orders + ";turn 1", orders.length() + 6);
        due("orders() of 50 parts and times", orders(orders + ";wait times 20"), -3);
        String estates = "wait times 20 if " + times("estate 5", 25, "+") + "=" + times("0", 25, "+");
        due("orders() of 25 estates", orders(estates), 20);
        faultyOrders(estates + "+0", estates.length() + 1);
    }

    private static void bracketsWithin() {
        begin("8 brackets of both kinds within one another (FAULT at the 9th)");
        claims("claims " + brackets("[[[[[[[[", "5", "]]]]]]]]"), 5);
        claims("claims " + brackets("[[[[[[[[", "5", "]]]]]]]]") + "+" + brackets("[[[[[[[[", "5", "]]]]]]]]"), 10);
        claims("bars if " + brackets("((((((((", "1=1", "))))))))"), 0);
        claims("bars if " + brackets("((((", "[[[[1]]]]=1", "))))"), 0);
        claims("bars if ((((((([1]=[1])))))))", 0);
        claims("bars if " + brackets("((((((((", "1=2", "))))))))") + " or " + brackets("((((((((", "1=1", "))))))))"), 0);
        again();
        faulty("claims [[[[[[[[[5]]]]]]]]]", 15);
        faulty("claims [[[[[[[[5]]]]]]]]+[[[[[[[[[5]]]]]]]]]", 33);
        faulty("claims [[[[[[[[5+[1]]]]]]]]]", 17);
        faulty("bars if (((((((((1=1)))))))))", 16);
        faulty("bars if ((((((((1=[1]))))))))", 18);
        faulty("bars if ((((((([1+[2]]=3)))))))", 18);
        faulty("bars if ((((((((1=1 or (1=1)))))))))", 23);
        faulty("bars if ((((((((not (1=1)))))))))", 20);
        faulty("claims [[[[[[[[[", 15);
        faulty("claims [[[[[[[[", 15);
        faulty("claims [[[[[[[[(", 15);
        String many = "claims " + times("[1]", 30, "+");
        due("thirty brackets beside one another", law(many), 0);
        faultyOrders("turn [[[[[[[[[0]]]]]]]]]", 13);
        due("orders() of 8", orders("wait if ((((((((1=1))))))))"), 1);
    }

    private static void sums() {
        begin("Beyond 1,000,000,000 either way, or divided by 0, a SUM, a TEST is BROKEN");
        String most = "1000*1000*1000";
        claims("claims 2;claims " + most + "/1000/1000-1", 999);
        claims("claims 2;claims " + most, 999);
        claims("claims 2;claims " + most + "+1", 2);
        claims("claims 2;claims " + most + "+1-1", 2);
        claims("claims 2;claims " + most + "-1", 999);
        claims("claims 2;claims 1+" + most, 2);
        claims("claims 2;claims 0-" + most, 0);
        claims("claims 2;claims 0-" + most + "-1", 2);
        claims("claims 2;claims 0-" + most + "-1+2", 2);
        claims("claims 2;claims [0-1]*" + most, 0);
        claims("claims 2;claims [0-1-" + most + "]*0", 2);
        claims("claims 2;claims " + most + "*1", 999);
        claims("claims 2;claims " + most + "*2/2", 2);
        claims("claims 2;claims [" + most + "]*[" + most + "]", 2);
        claims("claims 2;claims [0-" + most + "]*[0-" + most + "]", 2);
        claims("claims 2;claims " + most + "*1000*1000*1000*1000*1000*1000", 2);
        claims("claims 2;claims 5/0", 2);
        claims("claims 2;claims 5%0", 2);
        claims("claims 2;claims 0/0", 2);
        claims("claims 2;claims 0%0", 2);
        claims("claims 2;claims 0*[1/0]", 2);
        claims("claims 2;claims 5/[3-3]", 2);
        claims("claims 2;claims 3 if " + most + "=" + most, 3);
        claims("claims 2;claims 3 if " + most + "+1>0", 2);
        claims("claims 2;claims 3 if 0<" + most + "+1", 2);
        claims("claims 2;claims 3 if not " + most + "+1>0", 2);
        claims("claims 2;claims 3 if 0-" + most + "<0", 3);
        claims("claims 2;claims 3 if 0-" + most + "-1<0", 2);
        claims("claims 2;claims 3 if 1/0=1/0", 2);
        claims("claims 2;bars if 1%0=0", 2);
        claims("claims 2;bars if not (1%0=0)", 2);
        claims("claims 2;bars;claims 1/0", 0);
        begin("/ cut towards 0, % what is left then");
        int[][] pairs = {{7, 2}, {-7, 2}, {7, -2}, {-7, -2}, {6, 3}, {-6, 3}, {0, 5}, {1, 1000}, {-1, 1000}, {999, -1000}};
        for (int[] pair : pairs) {
            String left = pair[0] < 0 ? "[0-" + -pair[0] + "]" : "" + pair[0];
            String right = pair[1] < 0 ? "[0-" + -pair[1] + "]" : "" + pair[1];
            claims("claims " + left + "/" + right + "+100", pair[0] / pair[1] + 100);
            int rest = pair[0] - pair[0] / pair[1] * pair[1];
            claims("claims [" + left + "%" + right + "+1000]%1000", (rest + 1000) % 1000);
            claims("bars if " + left + "%" + right + "=" + (rest < 0 ? "0-" + -rest : "" + rest), 0);
        }
    }

    private static void tests() {
        begin("\"or\", \"and\" ask what stands behind only if it can still matter");
        String[] parts = {"1=1", "1=2", "1/0=1"};
        for (int a = 0; a < 3; a++) {
            for (int b = 0; b < 3; b++) {
                // 0 so, 1 not so, 2 broken
                int or = a == 0 ? 0 : a == 2 ? 2 : b;
                int and = a == 1 ? 1 : a == 2 ? 2 : b;
                claims("claims 5;bars if " + parts[a] + " or " + parts[b], or == 0 ? 0 : 5);
                claims("claims 5;bars if not (" + parts[a] + " or " + parts[b] + ")", or == 1 ? 0 : 5);
                claims("claims 5;bars if " + parts[a] + " and " + parts[b], and == 0 ? 0 : 5);
                claims("claims 5;bars if not (" + parts[a] + " and " + parts[b] + ")", and == 1 ? 0 : 5);
            }
        }
        claims("claims 5;bars if 1=2 and 1/0=1 or 1=1", 0);
        claims("claims 5;bars if 1=1 or 1/0=1 and 1/0=1", 0);
        claims("claims 5;bars if 1=2 or 1=1 and 1/0=1", 5);
        claims("claims 5;bars if (1=1 or 1/0=1) and 1=1", 0);
        claims("claims 5;bars if 1=2 and 1/0=1 and 1/0=1 or 1=2 or 2=2 or 1/0=1", 0);
        claims("claims 5;bars if 1=1 and (1=2 or 1/0=1)", 5);
        claims("claims 5;bars if not 1=2 and not (1=1 and 2=1)", 0);
        claims("claims 5;bars if not 1=1 and 1=1", 5);
        claims("claims 5;bars if not 1=1 or 1=1", 0);
        claims("claims 5;bars if not (not 1=1)", 0);
        claims("claims 5;bars if not (not 1=2)", 5);
        claims("claims 5;bars if not (not (not 1=2))", 0);
        claims("claims 5;bars if not (not (not 1=1)) and 1=1", 5);
        claims("claims 5;bars if 2>1 and 1<2 and 2=2 and not 2>2 and not 2<2 and not 1>2 and not 2<1 and not 1=2", 0);
    }

    private static void claimed() {
        begin("CLAIMS what the last \"claims\" that HOLDS tells, 0 .. 999 (else the nearest), 1 without");
        claims("fogs;bars if 1=2", 1);
        claims("claims 0", 0);
        claims("claims 0-1", 0);
        claims("claims 0-1000", 0);
        claims("claims 1", 1);
        claims("claims 998", 998);
        claims("claims 999", 999);
        claims("claims 1000", 999);
        claims("claims 1000*1000", 999);
        claims("claims 4;claims 5;claims 6 if 1=2;claims 7 if 1/0=1;claims 8/0;claims 9/0 if 1=2", 5);
        claims("claims 4 if 1=2", 1);
        claims("claims 4/0", 1);
        claims("claims 5;claims 0", 0);
        claims("bars;claims 5", 0);
        claims("claims 5;bars", 0);
        claims("bars if 1=2;bars if 1=1;claims 5", 0);
        begin("asked of a HEIR and a THING");
        m.heir(63, 17);
        m.heir(0, 40);
        m.thing(63, 2, 3);
        m.thing(16, 20, 9);
        m.thing(0, 3, 0);
        m.candle(23);
        m.terms(1, 23);
        String[] words = {"x", "y", "glance", "hour", "heir", "age", "thing", "worth", "high", "lit"};
        int[] due = {0, 2, 1, 23, 1, 40, 1, 20, 9, 1};
        int[] own = {7, 7, 0, 23, 0, 17, 0, 2, 3, 1};
        m.image(0);
        for (int i = 0; i < words.length; i++) {
            m.back(0);
            inForce("claims " + words[i]);
            due("claim(1, 1, 0) of " + words[i], m.claim(1, 1, 0), due[i]);
            due("claim(0, 0, 0) of " + words[i], m.claim(0, 0, 0), own[i]);
        }
        m.back(0);
        inForce("claims lit+5");
        due("claim(1, 2, 0) of what is not lit", m.claim(1, 2, 0), 5);
    }

    private static void fogs() {
        begin("\"fogs\" of a GLASS (x, y; glance; heir, age, thing, worth, high, lit -1)");
        m.put(2, 2);
        m.put(58, 1);
        m.heir(0, 40);
        m.thing(2, 5, 5);
        m.candle(0);
        m.terms(1, 23);
        m.image(0);
        due("glance(0, 10)", m.glance(0, 10), 2);
        due("glance(0, 57)", m.glance(0, 57), 3);
        String[] are = {"x=2", "y=0", "glance=1", "hour=23", "heir=0-1", "age=0-1", "thing=0-1", "worth=0-1", "high=0-1", "lit=0-1"};
        String[] not = {"x=1", "y=1", "glance=2", "hour=0", "heir=0", "age=40", "thing=0", "worth=5", "high=5", "lit=1"};
        for (int i = 0; i < are.length; i++) {
            m.back(0);
            inForce("fogs if x=2 and y=0 and " + are[i]);
            due("glance(0, 10) by fog if " + are[i], m.glance(0, 10), NONE);
            due("glance(0, 2) by fog if " + are[i], m.glance(0, 2), 1);
            inForce("fogs if x=2 and y=0 and " + not[i]);
            due("glance(0, 10) by fog if " + not[i], m.glance(0, 10), 2);
        }
        m.back(0);
        inForce("fogs if 1/0=1;fogs if 1=2 and 1/0=1");
        due("glance(0, 10) by broken fog", m.glance(0, 10), 2);
        inForce("claims 1;bars;fogs if 1=2;fogs if 1/0=1;fogs");
        due("glance(0, 10) by the last fog", m.glance(0, 10), NONE);
        m.terms(1, 0);
        inForce("fogs if hour=23");
        due("glance(0, 10)", m.glance(0, 10), 2);
        orders("wait times 20");
        due("glance(0, 10)", m.glance(0, 10), 2);
        orders("wait times 3");
        due("glance(0, 10) at hour 23", m.glance(0, 10), NONE);
        orders("wait");
        due("glance(0, 10) at hour 0 behind 23", m.glance(0, 10), 2);
    }

    private static void orderTexts() {
        begin("ORDER {\";\" ORDER}, 12 at most (FAULT likewise)");
        due("twelve", orders(times("wait", 12, ";")), 12);
        due("count(16)", m.count(16), 12);
        faultyOrders(times("wait", 13, ";"), 60);
        faultyOrders(times("wait", 12, ";") + ";", 60);
        faultyOrders(times("wait", 12, ";") + "; ", 61);
        faultyOrders(times("wait", 12, ";") + "; turn", 61);
        due("count(16)", m.count(16), 12);
        begin("ORDER: (\"turn\" SUM | \"move\" SUM \"to\" SUM | \"wait\") [\"times\" TIMES] [\"if\" TEST]");
        String[] ends = {"turn", "turn 1+", "move", "move 0", "move 0 to", "wait times", "wait if", "wait if 1", "turn 0 times", "wait;",
            "turn estate", "turn sees", "turn sees 0", "move 0 to sees 0", "wait times 1 if"};
        for (String text : ends) {
            faultyOrders(text, text.length());
            faultyOrders(text + "  ", text.length() + 2);
        }
        faultyOrders("wait 0", 5);
        faultyOrders("turn 0 to 1", 7);
        faultyOrders("move 0 1", 7);
        faultyOrders("move to 1", 5);
        faultyOrders("wait times 1 times 1", 13);
        faultyOrders("wait if 1=1 times 1", 12);
        faultyOrders("fogs", 0);
        for (String word : new String[] {"x", "y", "glance", "heir", "age", "thing", "worth", "high", "lit", "turn"}) {
            faultyOrders("turn " + word, 5);
        }
        begin("TIMES: a NUMBER 1 .. 20; H 0 .. 5, T 0 .. 11");
        faultyOrders("wait times 0", 11);
        faultyOrders("wait times 21", 11);
        faultyOrders("wait times 1000", 11);
        faultyOrders("wait times 4294967297", 11);
        faultyOrders("wait times [1]", 11);
        faultyOrders("wait times hour", 11);
        faultyOrders("wait times 1+1", 12);
        due("times 1", orders("wait times 1"), 1);
        due("times 20", orders("wait times 20"), 20);
        due("times 0020", orders("wait times 0020"), 20);
        due("count(16)", m.count(16), 17);
        faultyOrders("turn estate 6", 12);
        faultyOrders("turn estate 4294967296", 12);
        faultyOrders("turn estate [0]", 12);
        faultyOrders("turn estate hour", 12);
        faultyOrders("turn sees 6 0", 10);
        faultyOrders("turn sees 0 12", 12);
        faultyOrders("turn sees 0 4294967296", 12);
        faultyOrders("turn sees 0 hour", 12);
        faultyOrders("turn sees 0+1 0", 11);
        due("orders()", orders("wait if estate 0+estate 5=0;wait if sees 0 0+sees 5 11+2=0;wait if estate 0005=sees 5 011+1"), 3);
    }

    private static void runs() {
        begin("each time \"if\" is asked (not run, if it is not so or BROKEN), then SUMS from the left");
        m.heir(0, 0);
        due("orders()", orders("wait times 20 if done<3"), 3);
        due("orders()", orders("wait times 20 if hour<3;wait times 20 if done=0;wait if 1/0=1"), 1);
        due("count(16)", m.count(16), 4);
        due("orders(): SUMS are not asked where \"if\" is not so", orders("turn 1/0 if 1=2;turn 9 if 1/0=1;move 9 to 99 times 20 if 1=2"), 0);
        refusedWith(0);
        due("stopped()", m.stopped(), NONE);
        due("orders()", orders("move done to 1+done"), 1);
        due("at(1, 2)", m.at(1, 2), 0);
        due("orders()", orders("wait times 5;move 0 to done times 3 if done<8"), 8);
        due("at(7, 2)", m.at(7, 2), 0);
        begin("to wait: the next HOUR (0 behind 23)");
        m.terms(1, 22);
        orders("wait");
        due("count(16)", m.count(16), 23);
        orders("wait");
        due("count(16)", m.count(16), 0);
        m.terms(1, 23);
        due("orders()", orders("wait times 20 if not hour=0;wait times 20;wait times 4 if hour=20 or hour=22"), 22);
        due("count(16)", m.count(16), 21);
        begin("pivots, rent, estate, sees: as it is now");
        m.put(3, 1);
        m.pivot(3, 0, 0);
        m.heir(0, 0);
        m.thing(11, 10, 0);
        m.candle(1);
        due("orders()", orders("wait if pivots=1;wait if rent=0 and estate 0=0 and sees 0 0=0-1;turn 0;"
                + "wait if rent=10;wait if estate 0=10*1000;wait if sees 0 0=2;turn pivots-1;wait if rent=0;wait if sees 0 0=0-1"), 9);
        due("at(3, 0)", m.at(3, 0), 1);
        due("orders()", orders("move 0 to 11;wait if sees 0 0=0;wait if sees 0 1=0-1;wait if sees 1 0=0-1;wait if estate 1=0"), 5);
        due("orders() by a law of hours", law("bars if hour=16"), 0);
        m.force(0);
        m.terms(1, 15);
        due("orders()", orders("wait if estate 0>0;wait if estate 0>0;wait if estate 0=0;wait if estate 0>0"), 3);
    }

    private static void words() {
        begin("hour, pivots, done, rent in one TEXT");
        m.put(3, 1);
        m.pivot(3, 0, 0);
        m.thing(11, 10, 0);
        m.candle(1);
        due("orders()", orders("wait times 2;turn 0;wait if rent=10 and done=3 and hour=2 and pivots=1"), 4);
        due("orders()", orders("wait if rent=10 and done=0 and hour=3 and pivots=1"), 1);
        begin("\"estate\" H, \"sees\" H T: each of its own");
        int[] cells = {1, 9, 10, 18, 19};
        for (int cell : cells) {
            m.put(cell, 2);
        }
        m.terms(0, 6);
        for (int heir = 0; heir < 6; heir++) {
            m.heir(8 * heir, heir);
        }
        int[] things = {0, 8, 16, 24, 32, 40, 1, 9, 10, 18, 27, 63};
        for (int cell : things) {
            m.thing(cell, 1, 0);
        }
        m.image(0);
        for (int heir = 0; heir < 6; heir++) {
            for (int thing = 0; thing < 12; thing++) {
                int by = m.glance(8 * heir, things[thing]);
                due("orders() of heir " + heir + " and thing " + thing, orders("wait if sees " + heir + " " + thing + "+1=" + (by + 1)), 1);
            }
        }
        begin("\"estate\" H: each of its own, 0 without that one");
        m.image(0);
        for (int heir = 0; heir < 6; heir++) {
            m.heir(9 * heir, 0);
            m.thing(9 * heir, 1 + heir, 0);
        }
        for (int heir = 0; heir < 6; heir++) {
            due("orders()", orders("wait if estate " + heir + "=" + (1 + heir) + "*1000"), 1);
        }
        m.back(0);
        m.heir(0, 0);
        m.thing(0, 1, 0);
        due("orders() of those that are gone", orders("wait if estate 1=0 and sees 1 0=0-1 and sees 0 1=0-1 and sees 5 11=0-1;wait if estate 0=1000"), 2);
    }

    private static void stops() {
        begin("One that can't be ends it: all is as it was ahead of it");
        m.put(3, 1);
        m.pivot(3, 0, 0);
        m.heir(0, 0);
        m.turn(0);
        String[] texts = {"turn 1", "wait;turn 1", "wait;wait;turn 0-1", "turn 0;move 0 to 9;wait times 20;move 0 to 3",
            "wait;wait;wait;wait;wait;wait;wait;wait;wait;wait;wait;turn 5", "turn done times 20", "move 0 to 60+done times 20"};
        int[] places = {0, 1, 2, 3, 11, 0, 0};
        for (int i = 0; i < texts.length; i++) {
            due("orders() of " + texts[i], orders(texts[i]), -3);
            due("stopped() of " + texts[i], m.stopped(), places[i]);
            due("fault() of " + texts[i], m.fault(), NONE);
            due("at(3, 0)", m.at(3, 0), 2);
            due("at(0, 2)", m.at(0, 2), 0);
            due("count(16)", m.count(16), 0);
            due("count(7)", m.count(7), 1);
        }
        refusals(0, 0, 7, 0, 0);
        due("orders()", orders("wait"), 1);
        due("stopped()", m.stopped(), NONE);
        orders("turn 1");
        due("stopped()", m.stopped(), 0);
        law("fogs");
        m.row();
        due("stopped(): of the latest orders()", m.stopped(), 0);
        orders("turn");
        due("stopped(): the latest orders() had none", m.stopped(), NONE);
        due("fault()", m.fault(), 4);
        begin("fault: of the latest law(), orders() that read a TEXT");
        due("fault()", m.fault(), NONE);
        orders("wait wait");
        due("fault()", m.fault(), 5);
        law("fogs");
        due("fault()", m.fault(), NONE);
        law("");
        due("fault()", m.fault(), 0);
        orders("wait");
        due("fault()", m.fault(), NONE);
        law("fogs fogs");
        for (int i = 0; i < 5; i++) {
            law("fogs");
        }
        due("count(4)", m.count(4), 6);
        orders("   ");
        due("fault()", m.fault(), 3);
        due("law() without room", law("fogs"), -5);
        due("fault(): that read none", m.fault(), 3);
        row("\0");
        m.row();
        due("fault(): a row is no TEXT", m.fault(), 3);
    }

    public static void main(String[] args) {
        lawsAreSix();
        tapeOf400();
        tokens();
        clauses();
        grammar();
        numbers();
        parts();
        bracketsWithin();
        sums();
        tests();
        claimed();
        fogs();
        orderTexts();
        runs();
        words();
        stops();
        finish("the edges of the texts hold");
    }
}
