/**
 * The document's sentences on texts, blanks, comments, values, numbers and words, each with the
 * last case on the one side of its bound and the first on the other. Bytes are all tried, 0 .. 255.
 */
public final class TextsTest {
  private static final String[] WORDS = {"IF", "GOTO", "WHILE", "DO", "END", "ABS", "FIX", "FUP",
      "ROOT", "MOD", "AND", "OR", "XOR", "EQ", "NE", "LT", "LE", "GT", "GE"};
  /** Each word in a line that is good, from WORDS in their order. */
  private static final String[] WORD_LINES = {"N1 IF[1] GOTO 1", "N1 GOTO 1",
      "WHILE[1] DO 1\nEND 1", "WHILE[1] DO 1\nEND 1", "WHILE[1]DO 1\n END 1", "#1= ABS[1]",
      "#1= FIX[1]", "#1= FUP[1]", "#1= ROOT[1]", "#1=1 MOD 2", "#1=1 AND 2", "#1=1 OR 2",
      "#1=1 XOR 2", "#1=[1 EQ 2]", "#1=[1 NE 2]", "#1=[1 LT 2]", "#1=[1 LE 2]", "#1=[1 GT 2]",
      "#1=[1 GE 2]"};
  /** Good lines of all forms, their tokens one by one. */
  private static final String[][] TOKENS = {{"N", "1", "#", "2", "=", "3", "\n"},
      {"#", "[", "1", "EQ", "1", "]", "=", "-", "ABS", "[", "4.5", "]", "*", "#", "7", "\n"},
      {"N", "1", "IF", "[", "1", "XOR", "0", "]", "GOTO", "01", "\n"},
      {"WHILE", "[", "#", "1", "]", "DO", "1", "\n", "END", "1", "\n"}, {"\n"}};

  public static void main(String[] args) {
    textsHaveAtMost8000Bytes();
    linesEndWith10();
    theLastLinePerhapsHasNo10();
    blanksAre9And13And32();
    blanksMeanNothing();
    blanksEndNumbers();
    blanksEndWords();
    commentsAreOfBytes32To126();
    commentsGoToTheNextClose();
    commentsStayInTheLine();
    commentsWithoutCloseAreNone();
    commentsMeanNothingWhatTheySay();
    valuesAreThousandths();
    numbersHaveOneToSixDigits();
    numbersHaveUpToThreeDigitsBehindThePoint();
    numbersAreOfDigits0To9();
    wordsAreThoseOfTheList();
    wordsAreTheLongest();
    wordsAreOfCapitals();
    elseSingleLetters();
    Checks.finish();
  }

  private static void textsHaveAtMost8000Bytes() {
    for (String filler : new String[] {"\n", " ", "\t", "\r"}) {
      for (int length = 7998; length <= 8003; length++) {
        String text = Checks.times(length, filler);
        if (length <= 8000) {
          Checks.good(text, filler.equals("\n") ? length : 1);
        } else {
          Checks.fault(text, 1, 8000);
        }
      }
    }
    Checks.good(Checks.times(7994, " ") + "#1=1+1", 1);
    Checks.fault(Checks.times(7995, " ") + "#1=1+1", 1, 8000);
    Checks.good("(" + Checks.times(7998, "c") + ")", 1);
    Checks.fault("(" + Checks.times(7998, "c") + ") ", 1, 8000);
    // A text that is too long leaves the one before, and is used up.
    ValueBlocks x = new ValueBlocks();
    Checks.due("read", Checks.read(x, "#1=#1+1"), 1);
    Checks.due("read of 8001", Checks.read(x, Checks.times(8001, "\n")), -1);
    Checks.due("run", x.run(5), 0);
    Checks.due("steps", x.steps(), 1);
    Checks.due("end(1)", x.end(1), -1);
    Checks.due("read of 8000", Checks.read(x, Checks.times(8000, "\n")), 8000);
    Checks.due("place", x.place(), -1);
    Checks.due("run", x.run(8000), 0);
    Checks.due("run", x.run(7999), 15);
    Checks.due("line", x.line(), 8000);
  }

  private static void linesEndWith10() {
    Checks.good("#1=1\n#2=2\n", 2);
    for (int b = 0; b < 256; b++) {
      if (b == 10) {
        continue;
      }
      // Another byte is no line's end: the second # stands in the first line, or the byte is told.
      boolean blank = b == 9 || b == 13 || b == 32;
      boolean more = b >= '0' && b <= '9' || b == '.';
      boolean sign = b == '+' || b == '-' || b == '*' || b == '/';
      Checks.fault("#1=1" + (char) b + "#2=2", 1, blank || more ? 5 : sign ? 7 : 4);
    }
  }

  private static void theLastLinePerhapsHasNo10() {
    for (String[] line : TOKENS) {
      String text = String.join(" ", line);
      Checks.good(text, text.split("\n", -1).length - 1);
      String open = text.substring(0, text.length() - 1);
      Checks.good(open, open.isEmpty() ? 0 : open.split("\n", -1).length);
    }
    Checks.good("#1=1\n", 1);
    Checks.good("#1=1", 1);
    Checks.good("\n#1=1", 2);
  }

  private static void blanksAre9And13And32() {
    for (int b = 0; b < 256; b++) {
      String text = (char) b + "#1=1";
      if (b == 9 || b == 13 || b == 32) {
        Checks.good(text, 1);
      } else if (b == 10) {
        Checks.good(text, 2);
      } else {
        // Of all others only # and N begin a line, which the # behind them is no part of.
        Checks.fault(text, 1, b == '#' || b == 'N' ? 1 : 0);
      }
    }
  }

  private static void blanksMeanNothing() {
    String[] nothings = {"", " ", "\t", "\r", "  \t\r ", "()", "(c)", " (c) (d)(e) "};
    for (String[] line : TOKENS) {
      int lines = String.join("", line).split("\n", -1).length - 1;
      for (String nothing : nothings) {
        Checks.good(nothing + String.join(nothing, line), lines);
        for (int gap = 0; gap < line.length; gap++) {
          StringBuilder text = new StringBuilder();
          for (int i = 0; i < line.length; i++) {
            text.append(i == gap ? nothing : "").append(line[i]);
          }
          Checks.good(text.toString(), lines);
        }
      }
    }
  }

  private static void blanksEndNumbers() {
    for (String nothing : new String[] {" ", "\t", "\r", "()", "(c)", " (c) "}) {
      int length = nothing.length();
      Checks.fault("#1=12" + nothing + "34", 1, 5 + length);
      Checks.fault("#1=12" + nothing + ".5", 1, 5 + length);
      Checks.fault("#1=12." + nothing + "5", 1, 6 + length);
      Checks.fault("#1" + nothing + "2=1", 1, 2 + length);
      Checks.fault("N1" + nothing + "2", 1, 2 + length);
      Checks.fault("N12\nGOTO 1" + nothing + "2", 1, 10 + length);
      // Each part of what would be too long a number is short enough.
      Checks.fault("#1=123456" + nothing + "7", 1, 9 + length);
      Checks.good("#1=123456" + nothing + "+7", 1);
    }
  }

  private static void blanksEndWords() {
    for (int i = 0; i < WORDS.length; i++) {
      String word = WORDS[i];
      int at = WORD_LINES[i].indexOf(word);
      for (int cut = 1; cut < word.length(); cut++) {
        for (String nothing : new String[] {" ", "\t", "\r", "()", "(c)"}) {
          String text = WORD_LINES[i].substring(0, at + cut) + nothing
              + WORD_LINES[i].substring(at + cut);
          Checks.fault(text, 1, at);
        }
      }
    }
    // N, and E 1: not NE.
    Checks.fault("N E1", 1, 2);
    Checks.fault("NE1", 1, 0);
  }

  private static void commentsAreOfBytes32To126() {
    for (int b = 0; b < 256; b++) {
      String text = "#1=1(a" + (char) b + "b)";
      if (b == ')') {
        Checks.fault(text, 1, 7);
      } else if (b >= 32 && b <= 126) {
        Checks.good(text, 1);
      } else {
        Checks.fault(text, 1, 4);
      }
    }
    // Such a byte behind the ) is not in the comment.
    Checks.fault("#1=1(ab)\u001f", 1, 8);
    Checks.fault("#1=1(ab)\u007f", 1, 8);
    Checks.good("#1=1(ab)\t", 1);
    // It is ahead of the ), though another comment would end there.
    Checks.fault("#1=1(a\t(b)", 1, 4);
  }

  private static void commentsGoToTheNextClose() {
    Checks.worth("1(a)+1(b)", 2000);
    Checks.worth("1(a(b)+1", 2000);
    Checks.worth("1()+1", 2000);
    Checks.worth("(()1", 1000);
    Checks.fault("#1=1(a))", 1, 7);
    Checks.fault("#1=1(a)b)", 1, 7);
    Checks.fault("#1=1(a(b))", 1, 9);
    Checks.fault("#1=1)", 1, 4);
    Checks.fault(")", 1, 0);
  }

  private static void commentsStayInTheLine() {
    Checks.good("(a)\n(b)", 2);
    Checks.fault("(a\n)", 1, 0);
    Checks.fault("#1=1 (a\n#2=2 (b)", 1, 5);
    Checks.fault("(\n", 1, 0);
  }

  private static void commentsWithoutCloseAreNone() {
    Checks.fault("(", 1, 0);
    Checks.fault("(a", 1, 0);
    Checks.fault("#1=(a", 1, 3);
    Checks.fault("#1=1 (a", 1, 5);
    Checks.fault("(a) (b", 1, 4);
    Checks.fault("\n\nGOTO (1", 1, 7);
    // Where it stands the line was wrong already, or is not yet.
    Checks.fault("#1=1 2 (a", 1, 5);
    Checks.fault("#1=1 (a 2", 1, 5);
  }

  private static void commentsMeanNothingWhatTheySay() {
    Checks.good("(N1)N2(N2)\nN1(#)", 2);
    Checks.good("(END 1)WHILE[0(])]DO 1(GOTO 9)\nEND 1(END 1)", 2);
    Checks.good("(1234567 a.b ~ 1.2345 [[[[[[[[[[[[[[[[[[[[[[[[)", 1);
    ValueBlocks x = new ValueBlocks();
    Checks.read(x, "#1=1(+1)\n(#2=1)\n(#3=1/0)");
    Checks.due("run", x.run(9), 0);
    Checks.due("steps", x.steps(), 3);
    Checks.due("#1", x.variable(1), 1000);
    Checks.due("#2", x.variable(2), 0);
  }

  private static void valuesAreThousandths() {
    Checks.worth("0.001", 1);
    Checks.worth("0.010", 10);
    Checks.worth("0.01", 10);
    Checks.worth("0.1", 100);
    Checks.worth("1", 1000);
    ValueBlocks x = new ValueBlocks();
    x.put(2, 1);
    Checks.read(x, "#1=[#2 EQ 0.001]");
    Checks.due("run", x.run(1), 0);
    Checks.due("#2 is a thousandth", x.variable(1), 1000);
  }

  private static void numbersHaveOneToSixDigits() {
    long worth = 0;
    String digits = "";
    for (int count = 1; count <= 6; count++) {
      digits += count;
      worth = worth * 10 + count;
      Checks.worth(digits, worth * 1000);
      Checks.worth(digits + ".", worth * 1000);
      Checks.worth(digits + ".5", worth * 1000 + 500);
    }
    for (int count = 7; count <= 30; count++) {
      Checks.fault("#1=" + Checks.times(count, "1"), 1, 3);
      Checks.fault("#1=" + Checks.times(count, "0"), 1, 3);
      Checks.fault("#1=" + Checks.times(count, "1") + ".5", 1, 3);
    }
    Checks.fault("#1=.5", 1, 3);
    Checks.fault("#1=.", 1, 3);
    Checks.worth("000000", 0);
    Checks.worth("000001", 1000);
    Checks.worth("999999", 999999000);
    // Wherever a number stands, the seventh digit makes it none.
    Checks.good("N123456", 1);
    Checks.fault("N1234567", 1, 1);
    Checks.good("N999999 GOTO 999999", 1);
    Checks.fault("N1 GOTO 0000001", 1, 8);
    Checks.good("N1 IF[1]GOTO 000001", 1);
    Checks.fault("N1 IF[1]GOTO 0000001", 1, 13);
    Checks.good("#000001=1", 1);
    Checks.fault("#0000001=1", 1, 1);
    Checks.good("#1=#000001", 1);
    Checks.fault("#1=#0000001", 1, 4);
    Checks.good("WHILE[1]DO 000001\nEND 000001", 2);
    Checks.fault("WHILE[1]DO 0000001\nEND 1", 1, 11);
    Checks.fault("WHILE[1]DO 1\nEND 0000001", 1, 17);
  }

  private static void numbersHaveUpToThreeDigitsBehindThePoint() {
    Checks.worth("7.", 7000);
    Checks.worth("7.1", 7100);
    Checks.worth("7.12", 7120);
    Checks.worth("7.123", 7123);
    Checks.fault("#1=7.1234", 1, 3);
    Checks.fault("#1=7.0000", 1, 3);
    Checks.fault("#1=7.12345678", 1, 3);
    Checks.worth("999999.999", 999999999);
    Checks.fault("#1=999999.9990", 1, 3);
    Checks.worth("0.000", 0);
    Checks.fault("#1=7..", 1, 5);
    Checks.fault("#1=7.1.", 1, 6);
    Checks.fault("#1=7.123.", 1, 8);
    // A number with a point is not whole, whatever stands behind it.
    Checks.fault("#1.=1", 1, 1);
    Checks.fault("#1=#1.", 1, 4);
    Checks.fault("#1=#1.000", 1, 4);
    Checks.fault("N1.", 1, 1);
    Checks.fault("N1.0", 1, 1);
    Checks.fault("N1 GOTO 1.", 1, 8);
    Checks.fault("N1 IF[1]GOTO 1.0", 1, 13);
    Checks.fault("WHILE[1]DO 1.\nEND 1", 1, 11);
    Checks.fault("WHILE[1]DO 1\nEND 1.", 1, 17);
  }

  private static void numbersAreOfDigits0To9() {
    for (char digit = '0'; digit <= '9'; digit++) {
      Checks.worth("" + digit, (digit - '0') * 1000);
      Checks.worth("1" + digit + "." + digit, 10000 + (digit - '0') * 1100);
    }
    for (int b = 0; b < 256; b++) {
      boolean digit = b >= '0' && b <= '9';
      boolean blank = b == 9 || b == 13 || b == 32;
      boolean sign = b == '+' || b == '-' || b == '*' || b == '/';
      String text = "#1=1" + (char) b + "5";
      if (digit || sign || b == '.') {
        Checks.good(text, 1);
      } else {
        Checks.fault(text, 1, blank || b == 10 ? 5 : 4);
      }
    }
  }

  private static void wordsAreThoseOfTheList() {
    for (int i = 0; i < WORDS.length; i++) {
      String line = WORD_LINES[i];
      String word = WORDS[i];
      int at = line.indexOf(word);
      Checks.good(line, line.split("\n", -1).length);
      // Without its last letters it is single letters.
      for (int cut = 1; cut < word.length(); cut++) {
        Checks.fault(line.replaceFirst(word, word.substring(0, cut)), 1, at);
      }
    }
    for (String none : new String[] {"NOT", "THEN", "ELSE", "SQRT", "ROUND", "M", "SIN", "IFF"}) {
      Checks.fault("#1=" + none + "[1]", 1, 3);
    }
  }

  private static void wordsAreTheLongest() {
    // NE, not N with E; and the letters behind a word are another word's.
    Checks.fault("NE1", 1, 0);
    Checks.fault("NEND1", 1, 0);
    Checks.worth("5MODABS[-2]", 1000);
    Checks.worth("1XORFIX[1]", 0);
    Checks.worth("0ORFUP[0.5]", 1000);
    Checks.worth("1ANDROOT[4]", 1000);
    Checks.good("N1GOTO1", 1);
    Checks.good("N1IF[1LE1]GOTO1", 1);
    Checks.fault("#1=5MODD2", 1, 7);
    Checks.fault("#1=5XXOR2", 1, 4);
    Checks.fault("N1GOTOO1", 1, 6);
    Checks.fault("GOTOGOTO1", 1, 4);
    Checks.fault("WHILE[1]DOO1", 1, 10);
    Checks.fault("ENDO1", 1, 3);
    Checks.fault("#1=[1LEE1]", 1, 7);
    Checks.fault("#1=[1GTT1]", 1, 7);
    Checks.fault("#1=[1EEQ1]", 1, 5);
  }

  private static void wordsAreOfCapitals() {
    for (int i = 0; i < WORDS.length; i++) {
      String word = WORDS[i];
      int at = WORD_LINES[i].indexOf(word);
      for (int small = 0; small < word.length(); small++) {
        String changed = word.substring(0, small) + word.substring(small, small + 1).toLowerCase()
            + word.substring(small + 1);
        Checks.fault(WORD_LINES[i].replaceFirst(word, changed), 1, at);
      }
      Checks.fault(WORD_LINES[i].replaceFirst(word, word.toLowerCase()), 1, at);
    }
    for (char small = 'a'; small <= 'z'; small++) {
      Checks.fault("" + small, 1, 0);
      Checks.fault("N" + small, 1, 1);
      Checks.fault("#1=1 " + small, 1, 5);
    }
    Checks.fault("n1", 1, 0);
  }

  private static void elseSingleLetters() {
    for (char letter = 'A'; letter <= 'Z'; letter++) {
      // A letter alone is a token: N begins a line, and no other one is part of any.
      Checks.fault(letter + "1 x", 1, letter == 'N' ? 3 : 0);
      Checks.fault("#1=" + letter, 1, 3);
      Checks.fault("#1=1" + letter, 1, 4);
      Checks.fault("N1" + letter, 1, 2);
    }
    Checks.fault("N@", 1, 1);
    Checks.fault("@", 1, 0);
    Checks.fault("N[", 1, 1);
  }
}
