/** The edges that promises 9 to 13 and part II name. */
final class EdgeTextTests {
    private static final int LOWEST = Edge.LOWEST;
    private static final int HIGHEST = Edge.HIGHEST;

    private EdgeTextTests() {
    }

    static void runAll() {
        feeding();
        bytesInOrder();
        ending();
        fourTexts();
        textsWithFaults();
        faultAsked();
        theText();
        blanks();
        wordsAndNumbers();
        longestSigns();
        clausesAtMost();
        walkOnce();
        grammar();
        namesOfClauses();
        cutTowardsZero();
        atMostAMillion();
        bothSides();
        firstFault();
        leastFault();
        highestNumber();
        ninthOpen();
        faultAtTheEnd();
        walkBounds();
    }

    private static int feedBlanks(MovingStairs x) {
        return x.feed(0x20202020, 0x20202020, 0x20202020, 0x20202020, 0x20202020);
    }

    private static void feeding() {
        Edge.sentence("9: NONE, and none come, if there would be more than 300.");
        MovingStairs x = new MovingStairs();
        for (int i = 1; i <= 14; i++) {
            Edge.is("feed", feedBlanks(x), 20 * i);
        }
        Edge.is("down to 279", x.end(279), 279);
        Edge.is("299", feedBlanks(x), 299);
        Edge.is("beyond 300 by 19", feedBlanks(x), -1);
        Edge.is("299 stay", x.about(9), 299);
        Edge.is("down to 280", x.end(280), 280);
        Edge.is("300 exactly", feedBlanks(x), 300);
        Edge.is("beyond 300 by 20", feedBlanks(x), -1);
        Edge.is("300 stay", x.about(9), 300);
        Edge.is("down to 281", x.end(281), 281);
        Edge.is("beyond 300 by 1", feedBlanks(x), -1);
        Edge.is("281 stay", x.about(9), 281);
        Check.tape(x, "walk 9;");
        Edge.is("none of those bytes came", x.text(), 0);
        Edge.is("no fault", x.fault(0), 0);
        Edge.is("behind a text it is empty", feedBlanks(x), 20);
    }

    private static void bytesInOrder() {
        Edge.sentence("9: Twenty bytes come behind the tape, the highest of a first.");
        MovingStairs x = new MovingStairs();
        x.feed(0x77616c6b, 0x2031202b, 0x20312b31, 0x2b312b31, 0x2b313b20);
        Edge.is("walk 1 + 1+1+1+1+1; is a text", x.text(), 0);
        x.feed(0x80202020, 0x20202020, 0x20202020, 0x20202020, 0x20202020);
        Edge.is("a byte of 128", x.text(), -1);
        Edge.is("is no TOKEN", x.fault(0), 1);
        Edge.is("and is the first", x.fault(1), 0);
        x.feed(0x20202020, 0x20202020, 0x20202020, 0x20202020, 0x202020ff);
        Edge.is("a byte of 255", x.text(), -1);
        Edge.is("is the last of e", x.fault(1), 19);
        x.feed(0x20202020, 0x20202020, 0x20202020, 0x20202020, 0x20202020);
        x.feed(0x20202020, 0x20202020, 0x20003b20, 0x20202020, 0x20202020);
        Edge.is("a byte of 0", x.text(), -1);
        Edge.is("of the second twenty", x.fault(1), 29);
    }

    private static void ending() {
        Edge.sentence("10: NONE, and nothing is done, if it has not so many, or n is below 0.");
        Edge.refused(-1, x -> x.end(-1), x -> x.end(World.TAPE + 1), x -> x.end(20), x -> x.end(300),
            x -> x.end(301), x -> x.end(LOWEST), x -> x.end(HIGHEST));
        MovingStairs x = new MovingStairs();
        Edge.is("1 of an empty one", x.end(1), -1);
        Edge.is("0 of an empty one", x.end(0), 0);
        Check.tape(x, "walk 12;");
        Edge.is("9 of 8", x.end(9), -1);
        Edge.is("8 of 8", x.end(8), 8);
        Edge.is("7 of 8", x.end(7), 7);
        Edge.is("8 of 7", x.end(8), -1);
        Check.tape(x, "3;");
        Edge.is("what comes stands behind the first bytes", x.about(9), 9);
        Edge.is("walk 123; is a text", x.text(), 0);
        Check.tape(x, "walk");
        Edge.is("0 of 4", x.end(0), 0);
        Edge.is("then it is empty", x.text(), 1);
    }

    private static void fourTexts() {
        Edge.sentence("11: NONE: (the tape stays) there are 4.");
        MovingStairs x = new MovingStairs();
        Check.tape(x, "walk;");
        Edge.is("one with a fault isn't counted", x.text(), -1);
        for (int i = 0; i < 3; i++) {
            Check.tape(x, "walk 1;");
            Edge.is("text", x.text(), i);
        }
        Check.tape(x, "walk 10000;");
        Edge.is("a fault ahead of the fourth", x.text(), -1);
        Edge.is("an empty tape is the fourth", x.text(), 3);
        Edge.is("four", x.about(4), 4);
        Check.tape(x, "walk 1; walk");
        Edge.is("a fifth with a fault", x.text(), -1);
        Edge.is("its tape stays", x.about(9), 12);
        Edge.is("it wasn't read", x.fault(0), 0);
        Edge.is("and has no place", x.fault(1), -1);
        x.end(7);
        Edge.is("a fifth without", x.text(), -1);
        Edge.is("its tape stays too", x.about(9), 7);
        Edge.is("the fourth may be the text", x.by(3), true);
        theFourthRules();
        Edge.is("the fifth isn't one", x.by(4), false);
        x.back();
        Edge.is("there are none again", x.about(4), 0);
        Edge.is("but the tape is there", x.about(9), 7);
        Edge.is("so it is the first", x.text(), 0);
    }

    private static void theFourthRules() {
        MovingStairs x = Edge.halls(5, 5, 5, 5);
        for (int i = 0; i < 4; i++) {
            Check.law(x, "shut hall = " + i + ";");
        }
        for (int i = 3; i >= 0; i--) {
            x.by(i);
            x.run(1);
            for (int hall = 0; hall < 4; hall++) {
                Edge.is("SHUT " + hall + " by text " + i, x.of(hall, 2), hall < i ? 0 : 1);
            }
        }
    }

    private static void textsWithFaults() {
        Edge.sentence("11: The tape (empty then) is a TEXT. NONE: it has a FAULT.");
        MovingStairs x = new MovingStairs();
        Check.tape(x, "shut 1<2; walk 1");
        Edge.is("a fault", x.text(), -1);
        Edge.is("the tape is empty", x.about(9), 0);
        Edge.is("no texts", x.about(4), 0);
        Edge.is("by it", x.by(0), false);
        x.hall(5);
        x.hall(5);
        Check.law(x, "back 1<2;");
        Check.tape(x, "shut 1<2; walk 1");
        Edge.is("a fault behind a text", x.text(), -1);
        x.burst(0, 0, 0, 1, 3, false, true);
        x.run(1);
        Edge.is("the text stands as it was told", x.all(2), 3);
        Edge.is("without what had a fault", x.of(0, 2), 0);
        Check.law(x, "walk 9;");
        x.run(1);
        Edge.is("nothing of it is in the next", x.of(0, 2), 0);
        Check.tape(x, "shut 2<1; shut 1<2 1");
        Edge.is("another fault", x.text(), -1);
        Check.law(x, "shut 1<2;");
        x.run(1);
        Edge.is("nothing of that is in the next", x.of(0, 2), 1);
        Check.tape(x, "walk 1;");
        Check.tape(x, "walk 2;");
        Edge.is("two walks", x.text(), -1);
        Edge.is("walk for the second time", x.fault(0) * 100 + x.fault(1), 407);
    }

    private static void faultAsked() {
        Edge.sentence("12: 0 its FAULT (0 without), 1 its place (NONE without). NONE for others, and ahead of any.");
        MovingStairs x = new MovingStairs();
        int[] others = {-1, 2, 3, LOWEST, HIGHEST};
        Edge.is("0 ahead of any", x.fault(0), -1);
        Edge.is("1 ahead of any", x.fault(1), -1);
        x.text();
        Edge.is("0 without", x.fault(0), 0);
        Edge.is("1 without", x.fault(1), -1);
        Check.tape(x, "walk 1 1");
        x.text();
        Edge.is("0 with", x.fault(0), 1);
        Edge.is("1 with", x.fault(1), 7);
        for (int what : others) {
            Edge.is("fault " + what, x.fault(what), -1);
        }
        x.text();
        Edge.is("0 of the latest", x.fault(0), 0);
        Edge.is("1 of the latest", x.fault(1), -1);
    }

    private static void theText() {
        Edge.sentence("13: THE TEXT (NONE: none): true. False for others.");
        Edge.refused(0, x -> Edge.bit(x.by(-2)), x -> Edge.bit(x.by(1)), x -> Edge.bit(x.by(3)),
            x -> Edge.bit(x.by(4)), x -> Edge.bit(x.by(LOWEST)), x -> Edge.bit(x.by(HIGHEST)));
        MovingStairs x = Edge.halls(5, 5);
        Check.law(x, "shut hall = 0;");
        Check.law(x, "shut hall = 1;");
        x.run(1);
        Edge.is("by 1", x.of(0, 2) * 10 + x.of(1, 2), 1);
        Edge.is("to 0", x.by(0), true);
        x.run(1);
        Edge.is("by 0", x.of(0, 2) * 10 + x.of(1, 2), 11);
        Edge.is("to none", x.by(-1), true);
        x.run(1);
        Edge.is("by none", x.of(0, 2) * 10 + x.of(1, 2), 11);
        Edge.is("none is THE TEXT", x.about(5), -1);
    }

    private static void blanks() {
        Edge.sentence("II: TOKENS, blanks (32, 10) aside");
        Check.fault("\n\nwalk\n \n3 \n;\n", 0, 0);
        for (int sign : new int[] {0, 1, 9, 11, 12, 13, 31, 33, 127, 128, 160, 255}) {
            Check.fault((char) sign + "walk 3;", 1, 0);
            Check.fault("walk 3" + (char) sign + ";", 1, 6);
        }
    }

    private static void wordsAndNumbers() {
        Edge.sentence("II: letters a .. z, A .. Z one behind the other (one TOKEN), digits likewise");
        Check.fault("walk3;", 0, 0);
        Check.fault("walk second+3;", 0, 0);
        Check.fault("wal k 3;", 1, 0);
        Check.fault("walk 3 4;", 1, 7);
        Check.fault("walk 3a;", 1, 6);
        Check.fault("walk a3;", 1, 5);
        Check.fault("WALK 3;", 1, 0);
        Check.fault("walk Second;", 1, 5);
        Check.fault("walk secon;", 1, 5);
        Check.fault("walk seconds;", 1, 5);
        Check.fault("shut 1<2and 1<2;", 0, 0);
        Check.fault("shut 1<2 andnot 1<2;", 1, 9);
        Check.fault("shut 1<2 andZ 1<2;", 1, 9);
        Check.fault("shut 1<2or not 1<2;", 0, 0);
        Check.fault("shutnot 1<2;", 1, 0);
        for (char letter : new char[] {'a', 'b', 'y', 'z', 'A', 'B', 'Y', 'Z'}) {
            Check.fault("walk" + letter + " 3;", 1, 0);
            Check.fault("walk 3" + letter + ";", 1, 6);
            Check.fault(letter + "walk 3;", 1, 0);
        }
        for (char none : new char[] {'@', '[', '`', '{'}) {
            Check.fault("walk" + none + " 3;", 1, 4);
        }
        for (int digit = 0; digit < 10; digit++) {
            Check.fault("walk " + digit + ";", 0, 0);
            Check.fault("walk1" + digit + ";", 0, 0);
        }
        Check.fault("shut not1<2;", 0, 0);
    }

    private static void longestSigns() {
        Edge.sentence("II: <= >= < > = # + - * / ( ) ; (the longest)");
        String[] signs = {"<", "<=", ">", ">=", "=", "#"};
        String[] soOf = {"100", "110", "001", "011", "010", "101"};
        for (int i = 0; i < signs.length; i++) {
            for (int left = 1; left < 4; left++) {
                so(left + signs[i] + 2, soOf[i].charAt(left - 1) == '1');
                so("not " + left + signs[i] + 2, soOf[i].charAt(left - 1) == '0');
            }
        }
        Check.fault("shut 1< =2;", 1, 8);
        Check.fault("shut 1> =2;", 1, 8);
        Check.fault("shut 1=<2;", 1, 7);
        Check.fault("shut 1<==2;", 1, 8);
        Check.fault("shut 1<>2;", 1, 7);
        Check.fault("shut 1##2;", 1, 7);
        for (String none : new String[] {"!", "\"", "$", "%", "&", "'", ",", ".", ":", "?", "@", "[", "^", "|", "~"}) {
            Check.fault("shut 1" + none + "2;", 1, 6);
        }
    }

    private static void clausesAtMost() {
        Edge.sentence("II: {CLAUSE}, 10 at most; 6 the 11th CLAUSE (at its first TOKEN)");
        String nine = "shut 1<2;".repeat(9);
        Check.fault(nine, 0, 0);
        Check.fault(nine + "back 1<2;", 0, 0);
        Check.fault(nine + "walk 3;", 0, 0);
        Check.fault(nine + "back 1<2; back 1<2;", 6, 91);
        Check.fault(nine + "back 1<2;shut", 6, 90);
        Check.fault(nine + "back 1<2;walk 99999;", 6, 90);
        Check.fault(nine + "back 1<2;;", 1, 90);
        Check.fault(nine + "back 1<2;foo", 1, 90);
        Check.fault(nine + "back 1<2;second", 1, 90);
        Check.fault(nine + "walk 3;walk 3;", 4, 88);
        Check.fault(nine + "walk 3;shut 1<2;", 6, 88);
        Check.fault(nine + "walk 3;\n ", 0, 0);
        so("2<1;shut ".repeat(9) + "1<2");
        so("2<1;shut ".repeat(9) + "2<1", false);
        so("1<2;shut " + "2<1;shut ".repeat(8) + "2<1");
        so("2<1;back ".repeat(9) + "1<2", false);
    }

    private static void walkOnce() {
        Edge.sentence("II: walk SUM ; (once); 4 walk for the second time (at it)");
        Check.fault("walk 1;shut 1<2;", 0, 0);
        Check.fault("walk 1;shut 1<2;walk", 4, 16);
        Check.fault("walk 1;walk 99999;", 4, 7);
        Check.fault("walk 1;  walk 1;", 4, 9);
        Check.fault("walk walk 1;", 1, 5);
        Check.fault("walk 1 walk 1;", 1, 7);
        Check.fault("shut walk<1; walk 1;", 1, 5);
        MovingStairs x = new MovingStairs();
        for (int i = 0; i < 2; i++) {
            Check.tape(x, "walk 1;");
            Edge.is("once in each TEXT", x.text(), i);
        }
    }

    private static void grammar() {
        Edge.sentence("II: EITHER: BOTH {or BOTH}. BOTH: ASK {and ASK}. ASK: not ASK, or SUM one of .. SUM.");
        Check.fault("shut;", 1, 4);
        Check.fault("shut 1;", 1, 6);
        Check.fault("shut 1<;", 1, 7);
        Check.fault("shut <1;", 1, 5);
        Check.fault("shut 1<2<3;", 1, 8);
        Check.fault("shut 1<2 3;", 1, 9);
        Check.fault("shut 1<2 or;", 1, 11);
        Check.fault("shut or 1<2;", 1, 5);
        Check.fault("shut 1<2 and or 1<2;", 1, 13);
        Check.fault("shut 1 and 1<2;", 1, 7);
        Check.fault("shut 1 or 2;", 1, 7);
        Check.fault("shut not;", 1, 8);
        Check.fault("shut 1<2 not 1<2;", 1, 9);
        Check.fault("shut (1<2);", 1, 7);
        Check.fault("shut (1)<(2);", 0, 0);
        Check.fault("shut (not 1<2);", 1, 6);
        Check.fault("walk 1<2;", 1, 6);
        Check.fault("walk 1 or 2;", 1, 7);
        Check.fault("walk not 1;", 1, 5);
        Check.fault("walk ();", 1, 6);
        Check.fault("walk (1;", 1, 7);
        Check.fault("walk (1));", 1, 8);
        Check.fault("walk 1+;", 1, 7);
        Check.fault("walk *1;", 1, 5);
        Check.fault("walk 1*/1;", 1, 7);
        Check.fault("walk 1+-1;", 0, 0);
        Check.fault("walk 1-+1;", 1, 7);
        Check.fault("walk 1*-1;", 0, 0);
        Check.fault("walk 1 second;", 1, 7);
        Check.fault("1;", 1, 0);
        Check.fault("second;", 1, 0);
        Check.fault("and", 1, 0);
    }

    private static void namesOfClauses() {
        Edge.sentence("II: NAMES .. 5 a NAME that isn't of that CLAUSE (at it)");
        for (String name : new String[] {"hall", "count", "room", "outside"}) {
            Check.fault("shut 1<" + name + ";", 0, 0);
            Check.fault("back " + name + "<1;", 0, 0);
            Check.fault("walk 1+" + name + ";", 5, 7);
            Check.fault("walk (" + name, 5, 6);
            Check.fault("walk 1 " + name, 1, 7);
        }
        for (String name : new String[] {"steps", "load", "wait"}) {
            Check.fault("walk 1+" + name + ";", 0, 0);
            Check.fault("shut 1<" + name + ";", 5, 7);
            Check.fault("back -" + name + ";", 5, 6);
            Check.fault("back 1 " + name, 1, 7);
        }
        Check.fault("walk second; shut second<1; back 1<second;", 0, 0);
        Check.fault("shut 1<2; walk hall;", 5, 15);
        Check.fault("walk 1; shut load", 5, 13);
    }

    private static void so(String either) {
        so(either, true);
    }

    /** Whether a clause of numbers is so, by a hall that it shuts. */
    private static void so(String either, boolean due) {
        MovingStairs x = Edge.halls(5);
        Check.law(x, "shut " + either + ";");
        x.run(1);
        Edge.is(either, x.of(0, 2), due ? 1 : 0);
    }

    private static void cutTowardsZero() {
        Edge.sentence("II: From the left; / cuts towards 0, by 0 it is 0");
        so("9/10=0");
        so("10/10=1");
        so("19/10=1");
        so("-9/10=0");
        so("-19/10=-1");
        so("19/-10=-1");
        so("-19/-10=1");
        so("0/5=0");
        so("5/0=0");
        so("-5/0=0");
        so("0/0=0");
        so("5/(3-3)+1=1");
        so("5/0*7=0");
        so("24/4/3=2");
        so("24/(4/3)=24");
        so("9-4-3=2");
        so("9-(4-3)=8");
        so("7*3/2=10");
        so("7/2*3=9");
        so("1+2*3-4/2=5");
        so("-2*-3=6");
        so("-(2+3)*2=-10");
    }

    private static void atMostAMillion() {
        Edge.sentence("II: what is above 1000000 (below the same less) is that, at each step");
        so("1000*1000=100*100*100");
        so("1000*1000-1=999*1001");
        so("1000*1000#999*1001");
        so("1000*1000+1=1000*1000");
        so("1000*1000+1-1000*1000=0");
        so("999*1001+1=1000*1000");
        so("999*1001+1#999*1001");
        so("999*1001+2=1000*1000");
        so("1001*1000=1000*1000");
        so("1001*1000-1=999*1001");
        so("-1000*1000-1=-1000*1000");
        so("-1000*1000-1+1000*1000=0");
        so("-999*1001-1=-1000*1000");
        so("-999*1001-1#-999*1001");
        so("-999*1001-2=-1000*1000");
        so("-1001*1000=-1000*1000");
        so("0-1001*1000=-1000*1000");
        so("-(1001*1000)+1=-999*1001");
        so("9999*9999*(9999*9999)=1000*1000");
        so("9999*9999*(-9999*9999)=-1000*1000");
        so("-9999*9999*(-9999*9999)=1000*1000");
        so("9999*9999*9999*9999/1000=1000");
        so("9999*9999/9999=100");
        so("1000*1000*1000/1000=1000");
        so("9999*9999+9999*9999-1000*1000=0");
    }

    private static void bothSides() {
        Edge.sentence("II: or and and look at both sides always");
        so("1<2 or 2<1");
        so("2<1 or 1<2");
        so("2<1 or 2<1", false);
        so("1<2 or 1<2");
        so("1<2 and 1<2");
        so("1<2 and 2<1", false);
        so("2<1 and 1<2", false);
        so("2<1 and 2<1", false);
        so("2<1 and 2<1 or 1<2");
        so("1<2 or 2<1 and 2<1");
        so("2<1 or 2<1 or 1<2");
        so("1<2 and 1<2 and 2<1", false);
        so("not 1<2 or 1<2 and 1<2");
        so("1<2 and not 2<1");
        so("1/0=0 and 1/0=0 or 2<1");
        so("not not not 2<1");
        so("not 2<1 and 1<2");
        Check.fault("shut 1<2 or load<1;", 5, 12);
        Check.fault("shut 2<1 and load<1;", 5, 13);
        Check.fault("shut 1<2 or 10000<1;", 2, 12);
    }

    private static void firstFault() {
        Edge.sentence("II: FAULTS, the first as TOKENS are come to, at the TOKEN's first byte");
        Check.fault("walk 10000 !;", 2, 5);
        Check.fault("walk ! 10000;", 1, 5);
        Check.fault("shut load < 10000;", 5, 5);
        Check.fault("shut 10000 < load;", 2, 5);
        Check.fault("  walk   secnd;", 1, 9);
        Check.fault("shut 1 <= 10000;", 2, 10);
        Check.fault("shut 1 !<= 2;", 1, 7);
        Check.fault("shut 1<2; !", 1, 10);
        Check.fault("shut 1<2 !", 1, 9);
        Check.fault("walk 123456;", 2, 5);
        Check.fault("walk 1; foo; walk 2;", 1, 8);
    }

    private static void leastFault() {
        Edge.sentence("II: of one the least");
        String open = "walk ((((((((";
        Check.fault("walk 1 10000;", 1, 7);
        Check.fault("10000", 1, 0);
        Check.fault("shut 1<2 10000", 1, 9);
        Check.fault(open + "1(", 1, 14);
        Check.fault(open + "10000", 2, 13);
        Check.fault(open + "room", 5, 13);
        Check.fault(open + "not", 1, 13);
        Check.fault(open + "foo", 1, 13);
        Check.fault("shut not not not not not not not not (1)<2;", 3, 37);
        Check.fault("shut (((((((1+not 1))))))))<1;", 1, 14);
        Check.fault("walk 1 walk", 1, 7);
        Check.fault("shut 1 load", 1, 7);
        Check.fault("shut 1<2;".repeat(9) + "walk 1;walk", 4, 88);
    }

    private static void highestNumber() {
        Edge.sentence("II: 2 a NUMBER above 9999 (NUMBERS, 0 .. 9999)");
        Check.fault("walk 0;", 0, 0);
        Check.fault("walk 9999;", 0, 0);
        Check.fault("walk 10000;", 2, 5);
        Check.fault("walk 09999;", 0, 0);
        Check.fault("walk 010000;", 2, 5);
        Check.fault("walk 99990;", 2, 5);
        Check.fault("walk -10000;", 2, 6);
        Check.fault("walk 2147483647;", 2, 5);
        Check.fault("walk 2147483648;", 2, 5);
        Check.fault("walk 4294967295;", 2, 5);
        Check.fault("walk 4294967297;", 2, 5);
        Check.fault("walk 18446744073709551617;", 2, 5);
        Check.fault("walk " + "0".repeat(290) + "9999;", 0, 0);
        Check.fault("walk " + "0".repeat(289) + "10000;", 2, 5);
        Check.fault("walk " + "9".repeat(294) + ";", 2, 5);
        so("0009=9");
        so("9999-9998=1");
    }

    private static void ninthOpen() {
        Edge.sentence("II: 3 the 9th of ( not and - (of one ONE) that are open around one another (at it)");
        String eight = "((((((((";
        String closed = "))))))))";
        Check.fault("walk " + eight + "1" + closed + ";", 0, 0);
        Check.fault("walk (" + eight + "1" + closed + ");", 3, 13);
        Check.fault("walk " + eight + "-1" + closed + ";", 3, 13);
        Check.fault("walk " + eight + "1-1" + closed + ";", 0, 0);
        Check.fault("walk " + eight + "1" + closed + "+" + eight + "1" + closed + ";", 0, 0);
        Check.fault("walk " + eight + "1" + closed + "*-" + eight + "1" + closed + ";", 3, 31);
        Check.fault("walk --------1;", 0, 0);
        Check.fault("walk ---------1;", 3, 13);
        Check.fault("walk --------1---------1;", 0, 0);
        Check.fault("walk --------1----------1;", 3, 23);
        Check.fault("walk -------(1);", 0, 0);
        Check.fault("walk --------(1);", 3, 13);
        Check.fault("walk -(-(-(-(1)-1)-1)-1)-1;", 0, 0);
        Check.fault("walk -(-(-(-(1--1))));", 3, 15);
        String nots = "not not not not not not not not ";
        Check.fault("shut " + nots + "1<2;", 0, 0);
        Check.fault("shut " + nots + "not 1<2;", 3, 37);
        Check.fault("shut " + nots + "1<2 and " + nots + "1<2;", 0, 0);
        Check.fault("shut " + nots + "1<2 or not " + nots + "1<2;", 3, 76);
        Check.fault("shut 1<2 and not " + nots + "1<2;", 3, 45);
        Check.fault("shut 1<2 and " + nots + "1<2 and " + nots + "1<2;", 0, 0);
        Check.fault("shut " + nots + "-1<2;", 3, 37);
        Check.fault("shut " + nots + "1<-2;", 3, 39);
        Check.fault("shut " + nots + "1-1<2;", 0, 0);
        Check.fault("shut " + nots + "1<2 or -(1)<2;", 0, 0);
        Check.fault("shut not " + eight.substring(1) + "1" + closed.substring(1) + "<2;", 0, 0);
        Check.fault("shut not " + eight + "1" + closed + "<2;", 3, 16);
        so(nots + "1<2");
        so("------(-1)=-1");
        so("-----(-1)=1");
    }

    private static void faultAtTheEnd() {
        Edge.sentence("II: at the TOKEN's first byte (of the end at the length)");
        Check.fault("", 0, 0);
        Check.fault("walk", 1, 4);
        Check.fault("walk ", 1, 5);
        Check.fault("walk\n\n", 1, 6);
        Check.fault("walk 1", 1, 6);
        Check.fault("walk (1 ", 1, 8);
        Check.fault("shut 1<2 or", 1, 11);
        Check.fault("shut 1<2", 1, 8);
        Check.fault("walk 1;walk 1", 4, 7);
        Check.fault("walk 1" + "+1".repeat(147), 1, 300);
        Check.fault(" ".repeat(296) + "walk", 1, 300);
        Check.fault(" ".repeat(300), 0, 0);
        Check.fault(" ".repeat(293) + "walk 1;", 0, 0);
        Check.fault(" ".repeat(293) + "walk 1 ", 1, 300);
    }

    /** How many of ten that are taken one by one walk. */
    private static void walking(String walk, int due) {
        MovingStairs x = Edge.halls(99, 1);
        x.link(0, 0, 1, 40, 0);
        if (!walk.isEmpty()) {
            Check.law(x, walk);
        }
        x.burst(0, 1, 0, 1, 1, false, false);
        int walking = 0;
        for (int i = 0; i < 10; i++) {
            x.run(1);
            walking += x.step(0, 1, 0) == 11 ? 1 : 0;
        }
        Edge.is("taken by " + walk, x.on(0, 5), 10);
        Edge.is("walking by " + walk, walking, due);
    }

    private static void walkBounds() {
        Edge.sentence("III: W walk (asked as the LINK's turn begins; 0 at least, 10 at most; without 4)");
        walking("", 4);
        walking("shut 2<1; back 2<1;", 4);
        walking("walk 4;", 4);
        walking("walk -1000*1000;", 0);
        walking("walk -1;", 0);
        walking("walk 0;", 0);
        walking("walk 1;", 1);
        walking("walk 9;", 9);
        walking("walk 10;", 10);
        walking("walk 11;", 10);
        walking("walk 1000*1000;", 10);
        walking("shut 2<1; walk 7; back 2<1;", 7);
    }
}
