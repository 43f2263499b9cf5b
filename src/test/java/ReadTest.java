/** Promises 4 and 5: read and place. */
public final class ReadTest {
  public static void main(String[] args) {
    linesAreCounted();
    blanksAndComments();
    numbers();
    words();
    forms();
    depth();
    longTexts();
    straddlingTokens();
    repeatedLabels();
    loops();
    gotos();
    orderOfFaults();
    aFaultLeavesTheText();
    placeIsOfTheLatestRead();
    nothingIsLeftOfEarlierTexts();
    nothingIsLeftOfLongTexts();
    Checks.finish();
  }

  private static void linesAreCounted() {
    Checks.good("", 0);
    Checks.good("\n", 1);
    Checks.good(" ", 1);
    Checks.good("\n\n", 2);
    Checks.good("\n ", 2);
    Checks.good("#1=1", 1);
    Checks.good("#1=1\n", 1);
    Checks.good("#1=1\n(end)", 2);
    Checks.good("\n\t\r \n#1=1\n\nN5", 5);
  }

  private static void blanksAndComments() {
    Checks.good("\t#\r1 = ( a (b [ 7 ) 2(~)(\u0020)+3()", 1);
    Checks.fault("#1 = 1 2", 1, 7);
    Checks.fault("#1 = 1(c)2", 1, 9);
    Checks.fault("G OTO 1", 1, 0);
    Checks.fault("WHI()LE[1]DO1", 1, 0);
    Checks.fault("#1 (a\n)", 1, 3);
    Checks.fault("#1 = 1 (a", 1, 7);
    Checks.fault("#1 = 1 (", 1, 7);
    Checks.fault("#1 = 1 )", 1, 7);
    Checks.fault("#1 = 1 (a\tb)", 1, 7);
    Checks.fault("#1 = 1 (a\rb)", 1, 7);
    Checks.fault("#1 = 1 (a\u007fb)", 1, 7);
    Checks.fault("#1 = 1 (a\u001fb)", 1, 7);
    Checks.fault("#1 = 1 (a\u00e9b)", 1, 7);
    Checks.fault("#1 = 1 (a(b))", 1, 12);
    Checks.fault("#1 = 1\u000b", 1, 6);
    Checks.fault("#1 = 1\u0000", 1, 6);
    Checks.fault("\u00a0", 1, 0);
  }

  private static void numbers() {
    Checks.good("#1=999999.999", 1);
    Checks.good("#1=1.", 1);
    Checks.good("#000001=000000.000", 1);
    Checks.fault("#1=1234567", 1, 3);
    Checks.fault("#1=0000001", 1, 3);
    Checks.fault("#1=1.2345", 1, 3);
    Checks.fault("#1=1.0000", 1, 3);
    Checks.fault("#1=1.2.3", 1, 6);
    Checks.fault("#1=1..", 1, 5);
    Checks.fault("#1=.5", 1, 3);
    Checks.fault("#1.=5", 1, 1);
    Checks.fault("N1.", 1, 1);
    Checks.fault("N 1\nGOTO 1.0", 1, 9);
    Checks.fault("WHILE[1]DO 1.", 1, 11);
    Checks.fault("END 1.5", 1, 4);
    Checks.fault("N1234567", 1, 1);
  }

  private static void words() {
    Checks.good("N1IF[1EQ1]GOTO1", 1);
    Checks.good("#1=1MOD2AND3OR4XOR5", 1);
    Checks.good("#1=ABS[1]+FIX[1]*FUP[1]-ROOT[1]", 1);
    Checks.good("#1=[1NE2]+[1LT2]+[1LE2]+[1GT2]+[1GE2]", 1);
    Checks.fault("NE5", 1, 0);
    Checks.fault("N5X", 1, 2);
    Checks.fault("#1=1 MO 2", 1, 5);
    Checks.fault("#1=1 XO 2", 1, 5);
    Checks.fault("goto 1", 1, 0);
    Checks.fault("GOTo 1", 1, 0);
    Checks.fault("#1=aBS[1]", 1, 3);
    Checks.fault("#1=Abs[1]", 1, 3);
    Checks.fault("N1\nGOTON1", 1, 7);
    Checks.fault("DO 1", 1, 0);
    for (char letter = 'A'; letter <= 'Z'; letter++) {
      Checks.fault("" + letter, 1, letter == 'N' ? 1 : 0);
    }
  }

  private static void forms() {
    Checks.fault("N", 1, 1);
    Checks.fault("N\n", 1, 1);
    Checks.fault("N1N2", 1, 2);
    Checks.fault("#", 1, 1);
    Checks.fault("##1=1", 1, 1);
    Checks.fault("#-1=1", 1, 1);
    Checks.fault("#1", 1, 2);
    Checks.fault("#1\n=1", 1, 2);
    Checks.fault("#1=", 1, 3);
    Checks.fault("#1=1 EQ 1", 1, 5);
    Checks.fault("#1=1]", 1, 4);
    Checks.fault("#1=[1", 1, 5);
    Checks.fault("#1=[]", 1, 4);
    Checks.fault("#1=[1 EQ 1 EQ 1]", 1, 11);
    Checks.fault("#1=+1", 1, 3);
    Checks.fault("#1=1++1", 1, 5);
    Checks.fault("#1=1*", 1, 5);
    Checks.fault("#1=1=1", 1, 4);
    Checks.fault("#1=ABS 1", 1, 7);
    Checks.fault("#1=ABS", 1, 6);
    Checks.fault("#1=#", 1, 4);
    Checks.fault("#1=##1", 1, 4);
    Checks.fault("#1=#1.5", 1, 4);
    Checks.fault("#1=MOD 1", 1, 3);
    Checks.fault("=1", 1, 0);
    Checks.fault("IF 1 GOTO 1", 1, 3);
    Checks.fault("IF[1]", 1, 5);
    Checks.fault("IF[1]DO 1", 1, 5);
    Checks.fault("IF[1]GOTO", 1, 9);
    Checks.fault("IF[1]GOTO[1]", 1, 9);
    Checks.fault("WHILE 1 DO 1", 1, 6);
    Checks.fault("WHILE[1]GOTO 1", 1, 8);
    Checks.fault("GOTO", 1, 4);
    Checks.fault("GOTO #1", 1, 5);
    Checks.fault("END", 1, 3);
    Checks.fault("END 1 2", 1, 6);
    Checks.fault("1", 1, 0);
    Checks.good("#[1+#[2]]=--1--2*-3/[4]", 1);
    Checks.good("#1=#[1 EQ 1]*[2 LT 3]", 1);
    Checks.good("N1#1=1", 1);
    Checks.good("N0 GOTO 0", 1);
    Checks.good("WHILE[1 OR 0]DO 1\nEND 1", 2);
  }

  private static void depth() {
    String open = Checks.times(20, "[");
    String close = Checks.times(20, "]");
    String minus = Checks.times(20, "-");
    Checks.good("#1=" + open + "1" + close, 1);
    Checks.fault("#1=[" + open + "1" + close + "]", 1, 23);
    Checks.good("#1=" + minus + "1", 1);
    Checks.fault("#1=-" + minus + "1", 1, 23);
    Checks.fault("#1=" + open + "-1" + close, 1, 23);
    Checks.fault("#1=" + minus + "[1]", 1, 23);
    Checks.fault("#1=" + minus + "ABS[1]", 1, 26);
    Checks.fault("#1=" + minus + "#[1]", 1, 24);
    Checks.good("#1=" + minus + "#1", 1);
    Checks.good("#1=" + Checks.times(19, "[") + "-1-1--1" + Checks.times(19, "]"), 1);
    Checks.fault("#1=" + Checks.times(19, "[") + "-1---1" + Checks.times(19, "]"), 1, 26);
    Checks.good("#1=" + Checks.times(30, "-1*[1]+") + "1", 1);
    Checks.good("#1=" + Checks.times(20, "#[") + "1" + close, 1);
    Checks.fault("#1=" + Checks.times(21, "#[") + "1" + close + "]", 1, 44);
    Checks.good("#1=" + Checks.times(20, "FIX[") + "1" + close, 1);
    Checks.fault("#1=" + Checks.times(21, "FIX[") + "1" + close + "]", 1, 86);
    Checks.good("#" + open + "1" + close + "=" + open + "1" + close, 1);
    Checks.fault("#" + open + "[1]" + close + "=1", 1, 21);
    Checks.fault("#" + open + "-1" + close + "=1", 1, 21);
    Checks.good("N1IF" + open + "1" + close + "GOTO1", 1);
    Checks.fault("N1IF[" + open + "1" + close + "]GOTO1", 1, 24);
    Checks.good("WHILE" + open + "1" + close + "DO1\nEND1", 2);
    Checks.fault("WHILE[" + open + "1" + close + "]DO1\nEND1", 1, 25);
  }

  private static void longTexts() {
    String lines = Checks.times(7999, "\n");
    Checks.good(lines + "\n", 8000);
    Checks.good(lines + " ", 8000);
    Checks.good(Checks.times(8000, " "), 1);
    Checks.fault(lines + "\n\n", 1, 8000);
    Checks.fault(lines + "  ", 1, 8000);
    Checks.fault(Checks.times(8001, " "), 1, 8000);
    Checks.fault(lines + "x\n", 1, 7999);
    Checks.fault(lines + "\nx", 1, 8000);
    Checks.fault(lines + "#", 1, 8000);
    Checks.fault("x" + Checks.times(9000, "\n"), 1, 0);
    Checks.fault("GOTO 1" + Checks.times(9000, "\n"), 1, 8000);
    Checks.fault("GOTO 1" + Checks.times(7994, "\n"), 2, 5);
    Checks.good("#1=" + Checks.times(3998, "1+") + "1", 1);
    Checks.fault("#1=" + Checks.times(3998, "1+") + "1+", 1, 8000);
    Checks.fault("#1=" + Checks.times(3998, "1+") + "+1", 1, 7999);
  }

  /** Tokens are those of the whole tray: one that begins before byte 8000 is told at its start. */
  private static void straddlingTokens() {
    String lines = Checks.times(7990, "\n");
    Checks.fault(lines + "#1=   1234567", 1, 7996);
    Checks.fault(lines + "#1=    123456", 1, 8000);
    Checks.fault(lines + "       (comment)", 1, 8000);
    Checks.fault(lines + "       (comment", 1, 7997);
    Checks.fault(lines + "        GOTO 1", 1, 8000);
    Checks.fault(lines + "        GOT 1", 1, 7998);
  }

  private static void repeatedLabels() {
    Checks.good("N1\nN2\nN3", 3);
    Checks.fault("N1\nN1", 2, 4);
    Checks.fault("N1\nN 01", 2, 5);
    Checks.fault("N0\n\nN000000", 2, 5);
    Checks.fault("N7\nN8\nN9\nN8\nN7", 2, 10);
    Checks.good("N1\nN10\nN100\nGOTO 00100", 4);
  }

  private static void loops() {
    Checks.fault("WHILE[1]DO0\nEND0", 2, 10);
    Checks.fault("WHILE[1]DO4\nEND4", 2, 10);
    Checks.fault("WHILE[1]DO1\nWHILE[1]DO1\nEND1\nEND1", 2, 22);
    Checks.fault("WHILE[1]DO1\nWHILE[1]DO2\nWHILE[1]DO01", 2, 34);
    Checks.good("WHILE[1]DO1\nEND1\nWHILE[1]DO1\nEND01", 4);
    Checks.good("WHILE[1]DO3\nWHILE[1]DO1\nWHILE[1]DO2\nEND2\nEND1\nEND3", 6);
    Checks.good("WHILE[1]DO3\nWHILE[1]DO1\nEND1\nWHILE[1]DO1\nEND1\nEND3", 6);
    Checks.fault("END1", 2, 3);
    Checks.fault("WHILE[1]DO1\nEND2", 2, 15);
    Checks.fault("WHILE[1]DO1\nWHILE[1]DO2\nEND1\nEND2", 2, 27);
    Checks.fault("WHILE[1]DO1\nEND1\nEND1", 2, 20);
    Checks.fault("END1\nWHILE[1]DO1", 2, 3);
    Checks.fault("WHILE[1]DO1", 2, 10);
    Checks.fault("WHILE[1]DO1\nEND1\nWHILE[1]DO2\nWHILE[1]DO3\n", 2, 27);
    Checks.fault("WHILE[1]DO2\nWHILE[1]DO1\nEND1", 2, 10);
  }

  private static void gotos() {
    Checks.good("GOTO 5\nN05", 2);
    Checks.good("IF[1]GOTO 5\nN05", 2);
    Checks.fault("GOTO 5", 2, 5);
    Checks.fault("N5 GOTO 6\nIF[1]GOTO 7", 2, 8);
    Checks.fault("N5 GOTO 5\nIF[1]GOTO 7\nGOTO 8", 2, 20);
  }

  private static void orderOfFaults() {
    Checks.fault("GOTO 5\nN1\nN1\n#", 1, 14);
    Checks.fault("GOTO 5\nWHILE[1]DO1\nN1\nN1", 2, 23);
    Checks.fault("GOTO 5\nWHILE[1]DO1", 2, 17);
    Checks.fault("N1\nN1 END 9", 2, 4);
    Checks.fault("N1\nN1 WHILE[1]DO9", 2, 4);
    Checks.fault("END 9\nN1\nN1", 2, 4);
    Checks.fault("WHILE[1]DO9\nN1\nN1", 2, 10);
    Checks.fault("x\ny", 1, 0);
  }

  private static void aFaultLeavesTheText() {
    ValueBlocks x = new ValueBlocks();
    Checks.due("fault 1 first", Checks.read(x, "x"), -1);
    Checks.due("no text yet", x.run(5), -1);
    Checks.due("fault 2 first", Checks.read(x, "GOTO 1"), -2);
    Checks.due("no text yet", x.run(5), -1);
    Checks.due("good", Checks.read(x, "#1=1\n#2=1/0"), 2);
    Checks.due("fault 1", Checks.read(x, "#3=3\n#4=4\n#5=5\n="), -1);
    Checks.due("run", x.run(9), 1);
    Checks.due("line", x.line(), 2);
    Checks.due("fault 2", Checks.read(x, "#3=3\n#4=4\n#5=5\nGOTO 1"), -2);
    Checks.due("run", x.run(9), 1);
    Checks.due("steps", x.steps(), 2);
    Checks.due("#3", x.variable(3), 0);
    Checks.due("another", Checks.read(x, "#3=#1+2"), 1);
    Checks.due("run", x.run(9), 0);
    Checks.due("variables stay", x.variable(3), 3000);
    Checks.due("empty text", x.read(), 0);
    Checks.due("run of an empty text", x.run(0), 0);
    Checks.due("steps of an empty text", x.steps(), 0);
  }

  private static void placeIsOfTheLatestRead() {
    ValueBlocks x = new ValueBlocks();
    Checks.read(x, "#1=x");
    Checks.due("place", x.place(), 3);
    x.feed(0, 0, 0, 0, 0);
    x.end(0);
    x.run(4);
    Checks.due("place stays", x.place(), 3);
    Checks.read(x, "GOTO 1");
    Checks.due("place of fault 2", x.place(), 5);
    x.read();
    Checks.due("place of no fault", x.place(), -1);
  }

  /** Texts and faults in turn, so that whatever keeps a text is used again for each kind. */
  private static void nothingIsLeftOfEarlierTexts() {
    ValueBlocks x = new ValueBlocks();
    for (int i = 0; i < 5; i++) {
      Checks.due("labels", Checks.read(x, "N1\nN2\nWHILE[1]DO1\nEND1\nGOTO 2"), 5);
      Checks.due("no labels", Checks.read(x, "GOTO 1\n\n"), -2);
      Checks.due("other lines", Checks.read(x, "\n#1=1\n\n\n"), 4);
      Checks.due("no labels", Checks.read(x, "GOTO 1\n\n"), -2);
      Checks.due("no loops", Checks.read(x, "\n\nEND 1"), -2);
      Checks.due("run", x.run(4), 0);
    }
    Checks.due("labels", Checks.read(x, "N1\nN2"), 2);
    Checks.due("other lines", Checks.read(x, "\n\n"), 2);
    Checks.due("no labels, and no fault of theirs", Checks.read(x, "N2\nN1"), 2);
  }

  private static void nothingIsLeftOfLongTexts() {
    String sum = "1" + Checks.times(2200, "+1");
    ValueBlocks x = new ValueBlocks();
    Checks.due("fault 2", Checks.read(x, "#2=" + sum + "\nGOTO 1"), -2);
    Checks.due("long text", Checks.read(x, "#2=" + sum + "\n#3=#2+1"), 2);
    Checks.due("run", x.run(2), 0);
    Checks.due("#3", x.variable(3), 2202000);
  }
}
