import java.util.Arrays;
import java.util.List;

/**
 * The document's sentences on the forms of a line, on fault 1 and on fault 2, each with the last
 * case on the one side of its bound and the first on the other.
 */
public final class FormsTest {
  private static final String WHOLE = "7";
  private static final String POINTED = "7.5";
  private static final String NL = "\n";
  private static final String SMALL = "x";
  private static final String OPEN_COMMENT = "(";
  private static final String LONG = "1234567";
  private static final List<String> ALL = Arrays.asList(WHOLE, POINTED, NL, SMALL, OPEN_COMMENT,
      LONG, "#", "=", "[", "]", "+", "-", "*", "/", "IF", "GOTO", "WHILE", "DO", "END", "ABS",
      "FIX", "FUP", "ROOT", "MOD", "AND", "OR", "XOR", "EQ", "NE", "LT", "LE", "GT", "GE", "N",
      "A", ")", ".", ",", ";", ":", "\u0000", "\u00e9", "\u00ff");

  private static final String RESTS = "# IF GOTO WHILE END \n";
  private static final String PLACES = "7 [";
  private static final String FACTORS = "- ABS FIX FUP ROOT 7 7.5 # [";
  private static final String JOINTS = "+ - OR XOR * / MOD AND";
  private static final String COMPARED = "EQ NE LT LE GT GE";

  /** The beginnings of lines, each with what may go on with it. */
  private static final String[][] STATES = {
      {"", "N " + RESTS}, {"N", "7"}, {"N 1", RESTS},
      {"#", PLACES}, {"# 1", "="}, {"# [ 1 ]", "="}, {"# 1 =", FACTORS},
      {"# [", FACTORS}, {"# [ 1", JOINTS + " " + COMPARED + " ]"}, {"# [ 1 LT", FACTORS},
      {"# [ 1 LT 2", JOINTS + " ]"},
      {"# 1 = 1", JOINTS + " \n"}, {"# 1 = 1.5", JOINTS + " \n"}, {"# 1 = # 1", JOINTS + " \n"},
      {"# 1 = # [ 1 ]", JOINTS + " \n"}, {"# 1 = [ 1 ]", JOINTS + " \n"},
      {"# 1 = ABS [ 1 ]", JOINTS + " \n"}, {"# 1 = - 1", JOINTS + " \n"},
      {"# 1 = -", FACTORS}, {"# 1 = - -", FACTORS}, {"# 1 = #", PLACES}, {"# 1 = [", FACTORS},
      {"# 1 = # [", FACTORS}, {"# 1 = ABS", "["}, {"# 1 = FIX", "["}, {"# 1 = FUP", "["},
      {"# 1 = ROOT", "["}, {"# 1 = ABS [", FACTORS},
      {"# 1 = 1 +", FACTORS}, {"# 1 = 1 -", FACTORS}, {"# 1 = 1 *", FACTORS},
      {"# 1 = 1 /", FACTORS}, {"# 1 = 1 MOD", FACTORS}, {"# 1 = 1 AND", FACTORS},
      {"# 1 = 1 OR", FACTORS}, {"# 1 = 1 XOR", FACTORS}, {"# 1 = 1 + 2 * 3", JOINTS + " \n"},
      {"# 1 = [ 1", JOINTS + " " + COMPARED + " ]"}, {"# 1 = [ 1 EQ", FACTORS},
      {"# 1 = [ 1 NE", FACTORS}, {"# 1 = [ 1 LE", FACTORS}, {"# 1 = [ 1 GT", FACTORS},
      {"# 1 = [ 1 GE", FACTORS}, {"# 1 = [ 1 GE 2", JOINTS + " ]"},
      {"# 1 = FUP [ 1", JOINTS + " " + COMPARED + " ]"}, {"# 1 = FUP [ 1 EQ 2", JOINTS + " ]"},
      {"# 1 = # [ 1", JOINTS + " " + COMPARED + " ]"}, {"# 1 = [ [ 1 ]",
          JOINTS + " " + COMPARED + " ]"},
      {"IF", "["}, {"IF [", FACTORS}, {"IF [ 1", JOINTS + " " + COMPARED + " ]"},
      {"IF [ 1 EQ 2", JOINTS + " ]"}, {"IF [ 1 ]", "GOTO"}, {"IF [ 1 ] GOTO", "7"},
      {"IF [ 1 ] GOTO 1", "\n"},
      {"GOTO", "7"}, {"GOTO 1", "\n"},
      {"WHILE", "["}, {"WHILE [", FACTORS}, {"WHILE [ 1", JOINTS + " " + COMPARED + " ]"},
      {"WHILE [ 1 EQ 2", JOINTS + " ]"}, {"WHILE [ 1 ]", "DO"}, {"WHILE [ 1 ] DO", "7"},
      {"WHILE [ 1 ] DO 1", "\n"},
      {"END", "7"}, {"END 1", "\n"}};

  /** What opens one more level; the level is told at the last byte. */
  private static final String[] OPENERS =
      {"[", "-", "ABS[", "FIX[", "FUP[", "ROOT[", "#["};
  /** The same, with something that is worked out ahead of what is opened next. */
  private static final String[] FILLED = {"[1+", "[1-", "[2*", "[3 EQ ", "[1 OR 2*3 LT 4*", "#[4/"};

  public static void main(String[] args) {
    formsOfALine();
    linesMayBeCutWhereTheyMayEnd();
    noLineGoesOnInTheNext();
    twentyInOneAnother();
    twentyBehindIfWhileAndPlaces();
    onlyThoseInOneAnotherCount();
    faultOneIsTheFirstToken();
    faultOneAtByte8000();
    faultOneComesAheadOfFaultTwo();
    labelsThatWereThereBefore();
    loopsAreOneToThree();
    loopsInLoops();
    endsOfTheInnermostLoop();
    firstDoWithoutEnd();
    firstGotoToNoLabel();
    orderOfFaultsTwo();
    numbersAreTheSameByWorth();
    Checks.finish();
  }

  /** Every beginning with every token: it goes on, or is told at the token's first byte. */
  private static void formsOfALine() {
    for (String[] state : STATES) {
      List<String> allowed = Arrays.asList(state[1].split(" "));
      for (String token : ALL) {
        for (String before : new String[] {"", "\n", "#1=1\n"}) {
          oneForm(before + state[0] + " ", token, allowed.contains(token));
        }
      }
    }
  }

  private static void oneForm(String beginning, String token, boolean goesOn) {
    String text = beginning + token;
    ValueBlocks x = new ValueBlocks();
    int answer = Checks.read(x, text);
    boolean told = answer == -1 && x.place() == beginning.length();
    Checks.due("'" + text + "' goes on", !told, goesOn);
    if (!goesOn) {
      Checks.fault(text + "\n", 1, beginning.length());
      Checks.fault(text + " 7 \n x", 1, beginning.length());
    } else if (answer == -1) {
      // It is a beginning: what is missing is told at the text's end, or at the line's 10.
      Checks.due("place of '" + text + "'", x.place(), text.length());
      Checks.fault(text + " ", 1, text.length() + 1);
      Checks.fault(text + "(c)\n#1=1", 1, text.length() + 3);
    }
  }

  private static void linesMayBeCutWhereTheyMayEnd() {
    for (String[] state : STATES) {
      boolean mayEnd = Arrays.asList(state[1].split(" ")).contains(NL);
      for (String end : new String[] {"", "\n", "\n\n", "\n#1=1\n"}) {
        String text = state[0] + end;
        ValueBlocks x = new ValueBlocks();
        int answer = Checks.read(x, text);
        Checks.due("'" + text + "' has no fault 1", answer != -1, mayEnd);
        if (!mayEnd) {
          Checks.due("place of '" + text + "'", x.place(), state[0].length());
        }
      }
    }
  }

  private static void noLineGoesOnInTheNext() {
    Checks.fault("N\n1", 1, 1);
    Checks.fault("#1\n=1", 1, 2);
    Checks.fault("#1=\n1", 1, 3);
    Checks.fault("#1=[1\n]", 1, 5);
    Checks.fault("IF[1]\nGOTO 1", 1, 5);
    Checks.fault("N1 IF[1]GOTO\n1", 1, 12);
    Checks.fault("WHILE[1]DO\n1", 1, 10);
    Checks.fault("#1=1\n+1", 1, 5);
    Checks.good("N1\n#1=1", 2);
  }

  private static String closes(String openers) {
    return openers.replaceAll("[^\\[]", "").replace('[', ']');
  }

  private static void twentyInOneAnother() {
    for (String inner : OPENERS) {
      for (String outer : OPENERS) {
        twentyOf(outer, inner);
      }
      for (String outer : FILLED) {
        twentyOf(outer, inner);
      }
    }
  }

  private static void twentyOf(String outer, String inner) {
    String twenty = Checks.times(19, outer) + inner;
    Checks.good("#1=" + twenty + "5" + closes(twenty), 1);
    String tooMany = Checks.times(20, outer) + inner;
    int place = 3 + tooMany.length() - 1;
    Checks.fault("#1=" + tooMany + "5" + closes(tooMany), 1, place);
    // It is told at itself even if the text ends there, and whatever is behind it.
    Checks.fault("#1=" + tooMany, 1, place);
    Checks.fault("#1=" + tooMany + "x", 1, place);
  }

  private static void twentyBehindIfWhileAndPlaces() {
    String[] fronts = {"#[", "N1IF[", "WHILE["};
    String[] backs = {"]=1", "]GOTO 1", "]DO 1\nEND 1"};
    for (int i = 0; i < fronts.length; i++) {
      for (String opener : new String[] {"[", "-", "ROOT[", "#["}) {
        String nineteen = Checks.times(19, opener);
        String end = closes(nineteen);
        Checks.good(fronts[i] + nineteen + "5" + end + backs[i], i == 2 ? 2 : 1);
        for (String last : new String[] {"[", "-", "FIX[", "#["}) {
          Checks.fault(fronts[i] + nineteen + last + "5" + closes(last) + end + backs[i], 1,
              fronts[i].length() + nineteen.length() + last.length() - 1);
        }
      }
    }
    // A place that is a whole number opens nothing.
    String twenty = Checks.times(20, "[");
    Checks.good("#1=" + twenty + "#1" + closes(twenty), 1);
    Checks.good("#1=" + Checks.times(20, "-") + "#1", 1);
    // The place is closed when its sum begins.
    Checks.good("#" + twenty + "1" + closes(twenty) + "=" + twenty + "1" + closes(twenty), 1);
    Checks.good("#" + twenty + "1" + closes(twenty) + "=" + Checks.times(20, "-") + "1", 1);
    Checks.fault("#" + twenty + "[1]" + closes(twenty) + "=1", 1, 21);
  }

  private static void onlyThoseInOneAnotherCount() {
    String nineteen = Checks.times(19, "[");
    String twenty = nineteen + "[";
    // A closed one stands in no other; a minus between two products is no factor's.
    Checks.good("#1=" + nineteen + "[1]+[2]*[3]-[4]" + closes(nineteen), 1);
    Checks.good("#1=" + nineteen + "-1+-2*-3--4" + closes(nineteen), 1);
    Checks.good("#1=" + twenty + "1-2-3" + closes(twenty), 1);
    Checks.fault("#1=" + twenty + "1--2" + closes(twenty), 1, 25);
    Checks.good("#1=" + Checks.times(20, "-") + "1-" + Checks.times(20, "-") + "1", 1);
    Checks.fault("#1=" + Checks.times(20, "-") + "1-" + Checks.times(21, "-") + "1", 1, 45);
    Checks.good("#1=1" + Checks.times(100, "+[1]") + Checks.times(100, "--1"), 1);
    // The minus ends with its factor: the [ behind it is in it, that of the next product not.
    Checks.good("#1=-1+" + twenty + "1" + closes(twenty), 1);
    Checks.good("#1=-1*" + twenty + "1" + closes(twenty), 1);
    Checks.fault("#1=-" + twenty + "1" + closes(twenty), 1, 23);
    // Lines are counted each for itself.
    Checks.good("#1=" + twenty + "1" + closes(twenty) + "\n#1=" + twenty + "1" + closes(twenty), 2);
  }

  private static void faultOneIsTheFirstToken() {
    Checks.fault("#1=1 x y", 1, 5);
    Checks.fault("#1=1 2 x", 1, 5);
    Checks.fault("#1=1 (2 x", 1, 5);
    Checks.fault("x\n#1=", 1, 0);
    Checks.fault("#1=\nx", 1, 3);
    Checks.fault("#1=1\n#2=2\n#3=\n", 1, 13);
    Checks.fault("#1=" + Checks.times(25, "[") + "x", 1, 23);
    Checks.fault("#1=x" + Checks.times(25, "["), 1, 3);
    // Its first byte is told, though it is its last that makes it none.
    Checks.fault("#1=  1.2345", 1, 5);
    Checks.fault("#1=  1234567", 1, 5);
    Checks.fault("#1=1  GOTO 5", 1, 6);
    // The line's 10, or the text's end, behind the blanks.
    Checks.fault("#1=", 1, 3);
    Checks.fault("#1= \t(c)", 1, 8);
    Checks.fault("#1= \t(c)\n", 1, 8);
    Checks.fault("N", 1, 1);
    Checks.fault("\nN\n\n", 1, 2);
  }

  private static void faultOneAtByte8000() {
    String blanks = Checks.times(7997, " ");
    Checks.good(blanks + "N1\n", 1);
    Checks.fault(blanks + "N1 \n", 1, 8000);
    // What is wrong before byte 8000 is told; what is wrong at it or behind it is not.
    Checks.fault(blanks + "  x", 1, 7999);
    Checks.fault(blanks + "  xx", 1, 7999);
    Checks.fault(blanks + "   x", 1, 8000);
    Checks.fault(blanks + "    x", 1, 8000);
    Checks.fault(blanks + "N1x", 1, 7999);
    Checks.fault(blanks + "N 1x", 1, 8000);
    Checks.fault(blanks + "N1\nx", 1, 8000);
    Checks.fault(blanks + "N1\n\nx", 1, 8000);
    Checks.fault("x" + blanks + "  \n", 1, 0);
    Checks.fault("#1=" + Checks.times(8100, "\t"), 1, 8000);
    Checks.fault("#1=\n" + Checks.times(8100, "\t"), 1, 3);
    // The text's end at byte 8000 is a place like any other.
    Checks.fault("#1=" + blanks, 1, 8000);
    Checks.fault("#1=" + blanks.substring(1), 1, 7999);
    Checks.fault("#1=" + blanks.substring(1) + "\n", 1, 7999);
    Checks.fault("#1=" + blanks + "\n", 1, 8000);
    // The 10 that is byte 8000 ends no line.
    Checks.fault(Checks.times(7995, " ") + "#1=1\n", 1, -1, 1);
    Checks.fault(Checks.times(7996, " ") + "#1=1\n", 1, 8000);
  }

  private static void faultOneComesAheadOfFaultTwo() {
    Checks.fault("N1\nN1\nx", 1, 6);
    Checks.fault("END 1\nx", 1, 6);
    Checks.fault("GOTO 1\n#1=", 1, 10);
    Checks.fault("WHILE[1]DO 9\n(", 1, 13);
    Checks.fault("N1\nN1\n" + Checks.times(7994, " "), 2, 4);
    Checks.fault("N1\nN1\n" + Checks.times(7995, " "), 1, 8000);
  }

  private static void labelsThatWereThereBefore() {
    Checks.good("N1\nN2\nN0", 3);
    Checks.fault("N1\nN1", 2, 4);
    Checks.fault("N1\nN2\nN1", 2, 7);
    Checks.fault("N2\nN1\nN1", 2, 7);
    Checks.fault("N1\nN1\nN1", 2, 4);
    Checks.fault("N0\nN0", 2, 4);
    Checks.fault("N999999\nN999998\nN 999999", 2, 18);
    Checks.fault("N1 #1=1\nN1 #2=2", 2, 9);
    // The last label of the longest row of them.
    StringBuilder many = new StringBuilder();
    for (int n = 0; n < 1000; n++) {
      many.append("N").append(n).append("\n");
    }
    Checks.good(many.toString(), 1000);
    Checks.fault(many + "N999", 2, many.length() + 1);
    Checks.fault(many + "N0", 2, many.length() + 1);
    Checks.good(many + "N1000", 1001);
    // Labels are of their text: those of the one before are not there.
    ValueBlocks x = new ValueBlocks();
    Checks.due("a text", Checks.read(x, "N1"), 1);
    Checks.due("the next", Checks.read(x, "N1"), 1);
  }

  private static void loopsAreOneToThree() {
    for (int n = 0; n <= 6; n++) {
      String text = "WHILE[1]DO " + n + "\nEND " + n;
      if (n >= 1 && n <= 3) {
        Checks.good(text, 2);
      } else {
        Checks.fault(text, 2, 11);
      }
    }
    Checks.fault("WHILE[1]DO 999999\nEND 999999", 2, 11);
    Checks.fault("WHILE[1]DO 000000\nEND 0", 2, 11);
    Checks.fault("WHILE[1]DO 10\nEND 10", 2, 11);
    Checks.fault("WHILE[1]DO 1\nWHILE[1]DO 4\nEND 4\nEND 1", 2, 24);
  }

  private static void loopsInLoops() {
    for (int a = 1; a <= 3; a++) {
      for (int b = 1; b <= 3; b++) {
        for (int c = 1; c <= 3; c++) {
          int fault = b == a ? 24 : c == a || c == b ? 37 : -1;
          String text = "WHILE[1]DO " + a + "\nWHILE[1]DO " + b + "\nWHILE[1]DO " + c + "\nEND " + c
              + "\nEND " + b + "\nEND " + a;
          Checks.fault(text, 2, fault, 6);
        }
        // A loop that is closed stands around none.
        Checks.good("WHILE[1]DO " + a + "\nEND " + a + "\nWHILE[1]DO " + b + "\nEND " + b, 4);
      }
    }
    // No number is left for a fourth.
    for (int d = 1; d <= 3; d++) {
      Checks.fault("WHILE[1]DO 1\nWHILE[1]DO 2\nWHILE[1]DO 3\nWHILE[1]DO " + d, 2, 50);
    }
    Checks.good("WHILE[1]DO 1\nWHILE[1]DO 2\nEND 2\nWHILE[1]DO 2\nEND 2\nEND 1", 6);
    Checks.fault("WHILE[1]DO 1\nWHILE[1]DO 2\nEND 2\nWHILE[1]DO 1\nEND 1\nEND 1", 2, 43);
  }

  private static void endsOfTheInnermostLoop() {
    Checks.fault("END 1", 2, 4);
    Checks.fault("END 0", 2, 4);
    Checks.fault("END 4", 2, 4);
    for (int n = 0; n <= 4; n++) {
      Checks.fault("WHILE[1]DO 1\nWHILE[1]DO 3\nEND " + n + "\nEND 1", 2, n == 3 ? -1 : 30, 4);
      Checks.fault("WHILE[1]DO 2\nEND " + n, 2, n == 2 ? -1 : 17, 2);
    }
    Checks.fault("WHILE[1]DO 1\nEND 1\nEND 1", 2, 23);
    Checks.fault("END 1\nWHILE[1]DO 1", 2, 4);
    Checks.fault("WHILE[1]DO 1\nWHILE[1]DO 2\nEND 2\nEND 2", 2, 36);
  }

  private static void firstDoWithoutEnd() {
    Checks.fault("WHILE[1]DO 1", 2, 11);
    Checks.fault("WHILE[1]DO 1\nWHILE[1]DO 2", 2, 11);
    Checks.fault("WHILE[1]DO 1\nWHILE[1]DO 2\nWHILE[1]DO 3", 2, 11);
    Checks.fault("WHILE[1]DO 1\nWHILE[1]DO 2\nEND 2", 2, 11);
    Checks.fault("WHILE[1]DO 1\nEND 1\nWHILE[1]DO 2", 2, 30);
    Checks.fault("WHILE[1]DO 1\nEND 1\nWHILE[1]DO 1\nWHILE[1]DO 2\nEND 2", 2, 30);
  }

  private static void firstGotoToNoLabel() {
    Checks.fault("GOTO 1", 2, 5);
    Checks.fault("IF[1]GOTO 1", 2, 10);
    Checks.fault("N1\nGOTO 1\nGOTO 2\nGOTO 3", 2, 15);
    Checks.fault("N1 IF[0]GOTO 2\nGOTO 3", 2, 13);
    Checks.fault("N1 GOTO 3\nIF[0]GOTO 2", 2, 8);
    Checks.fault("GOTO 0\nN1", 2, 5);
    Checks.good("GOTO 0\nN0", 2);
    Checks.good("N1\nGOTO 1", 2);
    Checks.good("N1 GOTO 1", 1);
    Checks.good("IF[0]GOTO 2\nN1\nN2", 3);
    Checks.fault("N10\nN11\nGOTO 1", 2, 13);
  }

  /** N, DO and END in the text's order; then a DO without END; then a GOTO. */
  private static void orderOfFaultsTwo() {
    String label = "N1\nN1\n";
    String number = "WHILE[1]DO 4\n";
    String end = "END 1\n";
    Checks.fault(label + number + end, 2, 4);
    Checks.fault(number + label + end, 2, 11);
    Checks.fault(end + number + label, 2, 4);
    Checks.fault("N1 WHILE[1]DO 1\nN1 WHILE[1]DO 1", 2, 17);
    Checks.fault("N1 WHILE[1]DO 1\nN2 WHILE[1]DO 1", 2, 30);
    Checks.fault("N1 END 1\nN1", 2, 7);
    Checks.fault("N1\nN1 END 1", 2, 4);
    Checks.fault("WHILE[1]DO 1\nN1\nN1", 2, 17);
    Checks.fault("GOTO 9\nWHILE[1]DO 1\nEND 2", 2, 24);
    Checks.fault("GOTO 9\nWHILE[1]DO 1", 2, 18);
    Checks.fault("GOTO 9\nWHILE[1]DO 1\nEND 1", 2, 5);
    Checks.fault("GOTO 9\nN1\nN1", 2, 11);
    Checks.fault("IF[1]GOTO 9\nEND 1", 2, 16);
  }

  private static void numbersAreTheSameByWorth() {
    Checks.fault("N1\nN000001", 2, 4);
    Checks.fault("N000001\nN1", 2, 9);
    Checks.good("N1\nN10\nN100000", 3);
    Checks.good("GOTO 007\nN7", 2);
    Checks.good("GOTO 7\nN000007", 2);
    Checks.fault("GOTO 70\nN7", 2, 5);
    Checks.good("WHILE[1]DO 01\nEND 1", 2);
    Checks.good("WHILE[1]DO 3\nEND 000003", 2);
    Checks.fault("WHILE[1]DO 1\nWHILE[1]DO 001", 2, 24);
    ValueBlocks x = new ValueBlocks();
    Checks.read(x, "#05=7\n#000006=#005");
    Checks.due("run", x.run(5), 0);
    Checks.due("#6", x.variable(6), 7000);
  }
}
