/** Promises 9 to 13: the tape, texts, their faults, and what their clauses say. */
final class TextTests {
    private TextTests() {
    }

    static void runAll() {
        tape();
        tapeByBytes();
        goodTexts();
        wordsThatCannotStand();
        otherFaults();
        depth();
        clauses();
        faultAsked();
        fullOfTexts();
        by();
        sums();
        asks();
        names();
        walks();
        backs();
    }

    private static int blanks(MovingStairs x) {
        int b = 538976288;
        return x.feed(b, b, b, b, b);
    }

    private static void tape() {
        MovingStairs x = new MovingStairs();
        Check.is("end -1", x.end(-1), -1);
        Check.is("end 1 of none", x.end(1), -1);
        Check.is("end 0 of none", x.end(0), 0);
        for (int i = 1; i <= 15; i++) {
            Check.is("feed", blanks(x), 20 * i);
        }
        Check.is("feed beyond 300", blanks(x), -1);
        Check.is("tape", x.about(9), 300);
        Check.is("end 301", x.end(301), -1);
        Check.is("end 300", x.end(300), 300);
        Check.is("end 281", x.end(281), 281);
        Check.is("feed beyond 300 by 1", blanks(x), -1);
        Check.is("tape stays", x.about(9), 281);
        Check.is("end 280", x.end(280), 280);
        Check.is("feed up to 300", blanks(x), 300);
        Check.is("end of lowest", x.end(Integer.MIN_VALUE), -1);
        Check.is("end of highest", x.end(Integer.MAX_VALUE), -1);
        Check.is("a text of 300 blanks", x.text(), 0);
        Check.is("tape is empty", x.about(9), 0);
    }

    private static void tapeByBytes() {
        MovingStairs x = new MovingStairs();
        int four = 'w' << 24 | 'a' << 16 | 'l' << 8 | 'k';
        int more = ' ' << 24 | '7' << 16 | ';' << 8 | ' ';
        x.feed(four, more, 0x20202020, 0x20200a20, 0x2020200a);
        Check.is("highest byte first", x.text(), 0);
        x.feed(0x20202020, -1, 0x20202020, 0x20200a20, 0x2020200a);
        Check.is("byte 255", x.text(), -1);
        Check.is("is no token", x.fault(0), 1);
        Check.is("at its place", x.fault(1), 4);
        x.feed(0, 0, 0, 0, 0);
        Check.is("byte 0", x.text(), -1);
        Check.is("place of byte 0", x.fault(1), 0);
        Check.is("an empty text", x.text(), 1);
    }

    private static void goodTexts() {
        Check.fault("", 0, 0);
        Check.fault(" \n ", 0, 0);
        Check.fault("walk 3;", 0, 0);
        Check.fault("walk(3);shut count>room;back outside>=10;", 0, 0);
        Check.fault("shut not count#1 and room<2 or hall<=3 and not not second=4;", 0, 0);
        Check.fault("walk - -3*(load+wait)/steps-second;", 0, 0);
        Check.fault("walk 00009999;", 0, 0);
        Check.fault("walk\n5\n;", 0, 0);
        Check.fault("back 1<2;back 1<2;shut 1<2;walk 1;shut 1<2;", 0, 0);
        Check.fault("shut(1)<(2);", 0, 0);
    }

    private static void wordsThatCannotStand() {
        Check.fault("foo", 1, 0);
        Check.fault("Walk 1;", 1, 0);
        Check.fault("walkshut 1;", 1, 0);
        Check.fault("walk1;", 0, 0);
        Check.fault("walk foo;", 1, 5);
        Check.fault("walk secondary;", 1, 5);
        Check.fault("walk sec;", 1, 5);
        Check.fault("walk ;", 1, 5);
        Check.fault("walk 1", 1, 6);
        Check.fault("walk 1 ", 1, 7);
        Check.fault("walk", 1, 4);
        Check.fault("walk 1 2;", 1, 7);
        Check.fault("walk 1 < 2;", 1, 7);
        Check.fault("walk not 1;", 1, 5);
        Check.fault("walk (1;", 1, 7);
        Check.fault("walk 1);", 1, 6);
        Check.fault("walk +1;", 1, 5);
        Check.fault("walk 1 + ;", 1, 9);
        Check.fault("shut count;", 1, 10);
        Check.fault("shut count > 1 > 2;", 1, 15);
        Check.fault("shut (count > 1);", 1, 12);
        Check.fault("shut count = > 1;", 1, 13);
        Check.fault("shut count => 1;", 1, 12);
        Check.fault("shut count < = 1;", 1, 13);
        Check.fault("shut count ! 1;", 1, 11);
        Check.fault("shut count > 1 and;", 1, 18);
        Check.fault("shut count > 1 or or 1 > 2;", 1, 18);
        Check.fault("shut not;", 1, 8);
        Check.fault("shut count > not 1;", 1, 13);
        Check.fault("shut\t1<2;", 1, 4);
        Check.fault("shut 1<2;;", 1, 9);
        Check.fault("; walk 1;", 1, 0);
        Check.fault("7", 1, 0);
        Check.fault("second", 1, 0);
        Check.fault("shut 1<2 load;", 1, 9);
        Check.fault("walk 1 99999;", 1, 7);
        Check.fault("shut count2 > 1;", 1, 10);
        Check.fault("shut walk > 1;", 1, 5);
        Check.fault("walk 1.5;", 1, 6);
        for (char letter : "azAZmM".toCharArray()) {
            Check.fault("walk" + letter + " 1;", 1, 0);
        }
        for (char other : "@[`{_'\t\r".toCharArray()) {
            Check.fault("walk" + other + "1;", 1, 4);
        }
        Check.fault("walk 0/9;", 0, 0);
        Check.fault("walk 1:;", 1, 6);
        Check.fault("walk 1/;", 1, 7);
    }

    private static void otherFaults() {
        Check.fault("walk 9999;", 0, 0);
        Check.fault("walk 10000;", 2, 5);
        Check.fault("walk 99999999999999999999;", 2, 5);
        Check.fault("walk 4294967296;", 2, 5);
        Check.fault("shut 1 < 10000 foo", 2, 9);
        Check.fault("walk 1; walk 2;", 4, 8);
        Check.fault("walk 1; shut 1<2; walk", 4, 18);
        Check.fault("walk hall;", 5, 5);
        Check.fault("walk count;", 5, 5);
        Check.fault("walk room;", 5, 5);
        Check.fault("walk outside;", 5, 5);
        Check.fault("shut steps > 1;", 5, 5);
        Check.fault("shut 1 > load;", 5, 9);
        Check.fault("back 1 > 1 - wait;", 5, 13);
        Check.fault("walk 1 + second;", 0, 0);
    }

    private static void depth() {
        Check.fault("walk ((((((((1))))))));", 0, 0);
        Check.fault("walk (((((((((1)))))))));", 3, 13);
        Check.fault("walk --------1;", 0, 0);
        Check.fault("walk ---------1;", 3, 13);
        Check.fault("walk 1---------1;", 0, 0);
        Check.fault("walk 1----------1;", 3, 15);
        Check.fault("walk (-(-(-(-1))));", 0, 0);
        Check.fault("walk (-(-(-(-(1)))));", 3, 13);
        Check.fault("walk (-(-(-(--1))));", 3, 13);
        Check.fault("walk ((1))+((1))+((1))+((1))+((1));", 0, 0);
        Check.fault("walk -1--1--1--1--1--1;", 0, 0);
        String nots = "shut not not not not not not not not ";
        Check.fault(nots + "1<2;", 0, 0);
        Check.fault(nots + "not 1<2;", 3, 37);
        Check.fault(nots + "(1)<2;", 3, 37);
        Check.fault(nots + "1<(2);", 3, 39);
        Check.fault(nots + "1<-2;", 3, 39);
        Check.fault(nots + "1-2<2 and (1)<2;", 0, 0);
        Check.fault(nots + "1<2 and " + nots.substring(5) + "1<2;", 0, 0);
    }

    private static void clauses() {
        String ten = "shut 1<2;back 1<2;shut 1<2;back 1<2;shut 1<2;shut 1<2;back 1<2;shut 1<2;back 1<2;";
        Check.fault(ten + "walk 1;", 0, 0);
        Check.fault(ten + "back 1<2;", 0, 0);
        Check.fault(ten + "back 1<2; shut 1<2;", 6, ten.length() + 10);
        Check.fault(ten + "back 1<2; walk 1;", 6, ten.length() + 10);
        Check.fault(ten + "walk 1;walk", 4, ten.length() + 7);
        Check.fault(ten + "walk 1;back", 6, ten.length() + 7);
        Check.fault(ten + "walk 1;or", 1, ten.length() + 7);
        String ones = "1+".repeat(147);
        Check.fault("walk" + ones + "1;", 0, 0);
        Check.fault("walk" + ones + "1", 1, 299);
        Check.fault("walk" + ones + "1+", 1, 300);
        Check.fault("walk " + ones, 1, 299);
        Check.fault("walk " + ones + "#", 1, 299);
        Check.fault(";".repeat(300), 1, 0);
        Check.fault("walk 1" + " ".repeat(294), 1, 300);
    }

    private static void faultAsked() {
        MovingStairs x = new MovingStairs();
        Check.is("ahead of any", x.fault(0), -1);
        Check.is("its place", x.fault(1), -1);
        Check.tape(x, "walk 1; walk 2;");
        Check.is("not read yet", x.fault(0), -1);
        x.text();
        Check.is("fault", x.fault(0), 4);
        Check.is("place", x.fault(1), 8);
        Check.is("fault 2", x.fault(2), -1);
        Check.is("fault -1", x.fault(-1), -1);
        x.back();
        Check.is("fault behind back", x.fault(0), 4);
        Check.tape(x, "walk 1;");
        x.text();
        Check.is("no fault", x.fault(0), 0);
        Check.is("no place", x.fault(1), -1);
    }

    private static void fullOfTexts() {
        MovingStairs x = new MovingStairs();
        for (int i = 0; i < 4; i++) {
            Check.tape(x, "walk 1;");
            Check.is("text", x.text(), i);
        }
        Check.tape(x, "walk");
        Check.is("a fifth text", x.text(), -1);
        Check.is("the tape stays", x.about(9), 4);
        Check.is("it wasn't read", x.fault(0), 0);
        Check.is("texts", x.about(4), 4);
    }

    private static void by() {
        MovingStairs x = new MovingStairs();
        Check.is("by 0 of none", x.by(0), false);
        Check.is("by none", x.by(-1), true);
        Check.tape(x, "walk 1;");
        x.text();
        Check.is("no text yet", x.about(5), -1);
        Check.is("by 0", x.by(0), true);
        Check.is("by 1", x.by(1), false);
        Check.is("by -2", x.by(-2), false);
        Check.is("the text", x.about(5), 0);
        Check.is("by none", x.by(-1), true);
        Check.is("no text", x.about(5), -1);
    }

    /** Whether a hall is shut in second 0 by that clause: room 50, 7 in it, 3 outside, its number 1. */
    private static void shut(String either, boolean due) {
        MovingStairs x = new MovingStairs();
        x.hall(50);
        x.hall(50);
        Check.law(x, "shut " + either + ";");
        x.burst(0, 0, 1, 0, 7, false, false);
        x.burst(0, 0, 1, 0, 3, true, true);
        x.run(1);
        Check.is("shut " + either, x.of(1, 2), due ? 1 : 0);
        Check.is("outside by " + either, x.of(1, 1), due ? 3 : 0);
    }

    private static void sums() {
        shut("7-2-1=4", true);
        shut("100/10/5=2", true);
        shut("2+3*4=14", true);
        shut("(2+3)*4=20", true);
        shut("7/2=3", true);
        shut("-7/2=-3", true);
        shut("7/-2=-3", true);
        shut("-7/-2=3", true);
        shut("7/0=0", true);
        shut("-2*3=-6", true);
        shut("2*-3=0-6", true);
        shut("8/2*3=12", true);
        shut("--5=5", true);
        shut("9999*9999=1000*1000", true);
        shut("9999*9999-1=1000*1000-1", true);
        shut("-9999*9999=-1000*1000", true);
        shut("-9999*9999+1=1-1000*1000", true);
        shut("1000*1000+1=1000*1000", true);
        shut("9999*9999/9999=100", true);
        shut("(-9999*9999)*9999=-1000*1000", true);
    }

    private static void asks() {
        shut("1<2", true);
        shut("2<2", false);
        shut("2<=2", true);
        shut("3<=2", false);
        shut("3>2", true);
        shut("2>2", false);
        shut("2>=2", true);
        shut("1>=2", false);
        shut("2=2", true);
        shut("2=3", false);
        shut("2#3", true);
        shut("2#2", false);
        shut("not 2#2", true);
        shut("not not 2#2", false);
        shut("1<2 or 1<2 and 2<1", true);
        shut("1<2 and 2<1 or 1<2", true);
        shut("2<1 and 1<2 or 2<1", false);
        shut("not 1<2 or 1<2", true);
        shut("not 1<2 and 2<1", false);
        shut("2<1 or 2<1 or 1<2", true);
        shut("1<2 and 1<2 and 2<1", false);
        shut("1<2;shut 2<1", true);
        shut("2<1;shut 1<2", true);
        shut("2<1;walk 3;shut 1<2", true);
        shut("2<1;back 2<1", false);
        shut("2<1;shut ".repeat(9) + "1<2", true);
        shut("2<1;shut ".repeat(9) + "2<1", false);
        shut("1+".repeat(143) + "1=144", true);
    }

    private static void names() {
        shut("second=0", true);
        shut("hall=1", true);
        shut("count=7", true);
        shut("room=50", true);
        shut("outside=3", true);
        shut("count+outside>=room", false);
    }

    /** How many of the first ten that a stair takes walk, by a walk clause. */
    private static void walks(String text, int due) {
        MovingStairs x = new MovingStairs();
        x.hall(100);
        x.hall(1);
        x.link(0, 0, 1, 20, 0);
        if (!text.isEmpty()) {
            Check.law(x, text);
        }
        x.burst(0, 0, 0, 1, 10, false, false);
        int walking = 0;
        int took = 0;
        for (int i = 0; i < 19 && took < 10; i++) {
            x.run(1);
            took = x.on(0, 5);
            walking += x.step(0, 1, 0) == 11 ? 1 : 0;
        }
        Check.is("took by " + text, took, 10);
        Check.is("walking by " + text, walking, due);
    }

    private static void walks() {
        walks("", 4);
        walks("shut 2<1;", 4);
        walks("walk 0;", 0);
        walks("walk -3;", 0);
        walks("walk 3;", 3);
        walks("walk 10;", 10);
        walks("walk 11;", 10);
        walks("walk 1000*1000;", 10);
        walks("walk steps/5+1;", 5);
        walks("walk wait;", 6);
        walks("walk 10-load;", 6);
        walks("walk second;", 4);
    }

    private static void backs() {
        MovingStairs x = new MovingStairs();
        x.hall(5);
        x.hall(5);
        x.hall(5);
        Check.law(x, "back outside >= 4 and hall = 0; back second > 2; shut hall = 0;");
        x.burst(0, 1, 0, 2, 3, false, true);
        x.burst(0, 1, 0, 1, 2, true, true);
        x.burst(0, 1, 1, 2, 1, false, false);
        x.run(1);
        Check.is("none back", x.all(2), 0);
        Check.is("outside", x.of(0, 1), 5);
        x.run(1);
        Check.is("both back", x.all(2), 5);
        Check.is("outside", x.of(0, 1), 5);
        x.run(2);
        Check.is("all back", x.all(2), 15);
        Check.is("by train nobody goes back", x.of(1, 0), 4);
    }
}
