import java.util.Arrays;

/**
 * Part programs without motion: lines that set variables, go where a test sends them, and loop;
 * worked out in whole thousandths, with alarms.
 */
public final class ValueBlocks {
  private static final int TRAY_LIMIT = 16000;
  private static final int FED_LIMIT = 65536;
  private static final int FEED_BYTES = 20;
  private static final int FUEL_LIMIT = 30000;
  private static final int NO_PLACE = -1;

  private final Row tray;
  private final Tokens tokens;
  private final Reader reader;
  private final Machine machine;
  private Program program;
  /** What the next read() writes, so that a fault leaves the program in use as it was. */
  private Program spare;
  private boolean hasText;
  private int fed;
  private int faultPlace;

  public ValueBlocks() {
    tray = new Row(TRAY_LIMIT);
    tokens = new Tokens(tray);
    machine = new Machine();
    program = new Program();
    spare = new Program();
    reader = new Reader(tokens, spare);
    hasText = false;
    fed = 0;
    faultPlace = NO_PLACE;
  }

  public int feed(int a, int b, int c, int d, int e) {
    if (tray.size() + FEED_BYTES > TRAY_LIMIT || fed + FEED_BYTES > FED_LIMIT) {
      return -1;
    }
    fed += FEED_BYTES;
    putBytes(a);
    putBytes(b);
    putBytes(c);
    putBytes(d);
    putBytes(e);
    return tray.size();
  }

  private void putBytes(int four) {
    for (int shift = 24; shift >= 0; shift -= 8) {
      tray.add((four >>> shift) & 255);
    }
  }

  public int end(int n) {
    if (n < 0 || n > tray.size()) {
      return -1;
    }
    tray.cut(n);
    return n;
  }

  public int read() {
    tokens.split();
    tray.cut(0);
    if (!reader.translate(spare)) {
      faultPlace = reader.faultPlace();
      return -1;
    }
    faultPlace = Links.join(spare);
    if (faultPlace != NO_PLACE) {
      return -2;
    }
    Program before = program;
    program = spare;
    spare = before;
    hasText = true;
    return program.size();
  }

  public int place() {
    return faultPlace;
  }

  public int run(int fuel) {
    if (!hasText || fuel < 0 || fuel > FUEL_LIMIT) {
      return -1;
    }
    return machine.perform(program, fuel);
  }

  public int line() {
    return machine.alarmLine();
  }

  public int steps() {
    return machine.stepsDone();
  }

  public long variable(int n) {
    return machine.valueOf(n);
  }

  public boolean put(int n, long v) {
    return machine.setValue(n, v);
  }

  /** Numbers in a row that grows when it must, up to a limit, and is used again after a cut. */
  private static final class Row {
    private static final int FIRST_LENGTH = 64;

    private final int limit;
    private int[] items;
    private int size;

    Row(int limit) {
      this.limit = limit;
      this.items = new int[FIRST_LENGTH];
      this.size = 0;
    }

    int size() {
      return size;
    }

    void add(int item) {
      if (size >= limit) {
        return;
      }
      if (size >= items.length) {
        items = Arrays.copyOf(items, items.length * 2);
      }
      if (size >= 0 && size < items.length) {
        items[size] = item;
        size++;
      }
    }

    int get(int index) {
      if (index < 0 || index >= size || index >= items.length) {
        return 0;
      }
      return items[index];
    }

    void set(int index, int item) {
      if (index >= 0 && index < size && index < items.length) {
        items[index] = item;
      }
    }

    void cut(int length) {
      if (length >= 0 && length < size) {
        size = length;
      }
    }
  }

  /**
   * The kinds of tokens. A sign's kind is its byte, a letter's too. The words' kinds go up in the
   * order of Tokens.WORDS. A token that asks for an operation names it in the code, too.
   */
  private static final class Kind {
    static final int NONE = 0;
    static final int LINE_END = 10;
    static final int WHOLE = 256;
    static final int POINTED = 257;
    static final int FIRST_WORD = 300;
    static final int IF = 300;
    static final int GOTO = 301;
    static final int WHILE = 302;
    static final int DO = 303;
    static final int END = 304;
    static final int ABS = 305;
    static final int FIX = 306;
    static final int FUP = 307;
    static final int ROOT = 308;
    static final int MOD = 309;
    static final int AND = 310;
    static final int OR = 311;
    static final int XOR = 312;
    static final int EQ = 313;
    static final int NE = 314;
    static final int LT = 315;
    static final int LE = 316;
    static final int GT = 317;
    static final int GE = 318;
  }

  /** The tokens of the tray's text, up to the first that is none, which is a fault anyway. */
  private static final class Tokens {
    static final int TEXT_LIMIT = 8000;
    private static final int WHOLE_DIGITS = 6;
    private static final int PART_DIGITS = 3;
    private static final String WORDS =
        "IF   GOTO WHILEDO   END  ABS  FIX  FUP  ROOT MOD  AND  OR   XOR  EQ   NE   LT   LE   GT   GE   ";
    private static final int WORD_WIDTH = 5;

    private final Row text;
    /** A token for each byte, one for byte 8000, one for the text's end. */
    private final Row kinds = new Row(TEXT_LIMIT + 2);
    private final Row starts = new Row(TEXT_LIMIT + 2);
    private final Row worths = new Row(TEXT_LIMIT + 2);
    private int next;

    Tokens(Row text) {
      this.text = text;
    }

    int size() {
      return kinds.size();
    }

    int kind(int index) {
      return kinds.get(index);
    }

    /** The place of the token's first byte. */
    int start(int index) {
      return starts.get(index);
    }

    /** A number's thousandths, at most 999999999. */
    int worth(int index) {
      return worths.get(index);
    }

    void split() {
      kinds.cut(0);
      starts.cut(0);
      worths.cut(0);
      next = 0;
      int latest = Kind.LINE_END;
      for (int i = 0; i <= TEXT_LIMIT && next < text.size() && latest != Kind.NONE; i++) {
        takeToken();
        latest = kinds.get(kinds.size() - 1);
      }
      if (latest != Kind.LINE_END && latest != Kind.NONE) {
        addEnd();
      }
    }

    private void addEnd() {
      if (text.size() > TEXT_LIMIT) {
        add(Kind.NONE, TEXT_LIMIT, 0);
      } else {
        add(Kind.LINE_END, text.size(), 0);
      }
    }

    private void add(int kind, int start, int worth) {
      kinds.add(kind);
      starts.add(start);
      worths.add(worth);
    }

    private void takeToken() {
      int start = pastBlanks(next);
      int first = text.get(start);
      next = start + 1;
      if (start >= TEXT_LIMIT || start >= text.size()) {
        addEnd();
      } else if (isDigit(first)) {
        takeNumber(start);
      } else if (first >= 'A' && first <= 'Z') {
        takeWord(start, first);
      } else {
        add(isSign(first) ? first : Kind.NONE, start, 0);
      }
    }

    private void takeNumber(int start) {
      int wholeEnd = pastDigits(start);
      boolean pointed = text.get(wholeEnd) == '.';
      int partStart = pointed ? wholeEnd + 1 : wholeEnd;
      int partEnd = pointed ? pastDigits(partStart) : wholeEnd;
      next = partEnd;
      if (wholeEnd - start > WHOLE_DIGITS || partEnd - partStart > PART_DIGITS) {
        add(Kind.NONE, start, 0);
        return;
      }
      int worth = 0;
      for (int i = start; i < wholeEnd; i++) {
        worth = worth * 10 + text.get(i) - '0';
      }
      for (int i = partStart; i < partStart + PART_DIGITS; i++) {
        worth = worth * 10 + (i < partEnd ? text.get(i) - '0' : 0);
      }
      add(pointed ? Kind.POINTED : Kind.WHOLE, start, worth);
    }

    /** No word begins with another one, so the first that fits is the longest. */
    private void takeWord(int start, int first) {
      for (int at = 0; at + WORD_WIDTH <= WORDS.length(); at += WORD_WIDTH) {
        int length = fittingLength(at, start);
        if (length > 0) {
          next = start + length;
          add(Kind.FIRST_WORD + at / WORD_WIDTH, start, 0);
          return;
        }
      }
      add(first, start, 0);
    }

    /** How long the word is, if it stands at the start; else 0. */
    private int fittingLength(int wordAt, int start) {
      for (int i = 0; i < WORD_WIDTH; i++) {
        char letter = WORDS.charAt(wordAt + i);
        if (letter == ' ') {
          return i;
        }
        if (text.get(start + i) != letter) {
          return 0;
        }
      }
      return WORD_WIDTH;
    }

    private int pastDigits(int from) {
      for (int i = from; i < text.size(); i++) {
        if (!isDigit(text.get(i))) {
          return i;
        }
      }
      return text.size();
    }

    /** A ( without its ) is no comment: it is left as a token, and is none. */
    private int pastBlanks(int from) {
      for (int i = from; i < text.size(); i++) {
        int here = text.get(i);
        int close = here == '(' ? closing(i) : i;
        if (close < 0 || here != '(' && here != 9 && here != 13 && here != ' ') {
          return i;
        }
        i = close;
      }
      return text.size();
    }

    /** Where the comment ends, -1 if it does not. */
    private int closing(int open) {
      for (int i = open + 1; i < text.size(); i++) {
        int here = text.get(i);
        if (here == ')') {
          return i;
        }
        if (here < 32 || here > 126) {
          return -1;
        }
      }
      return -1;
    }

    private static boolean isDigit(int here) {
      return here >= '0' && here <= '9';
    }

    private static boolean isSign(int here) {
      switch (here) {
        case Kind.LINE_END:
        case '#':
        case '=':
        case '[':
        case ']':
        case '+':
        case '-':
        case '*':
        case '/':
          return true;
        default:
          return false;
      }
    }
  }

  /**
   * A text made ready to run. Each line has its code, from its first entry to the next line's: an
   * entry not below 0 is a number to be laid on the pile, one below 0 is an action, negated.
   */
  private static final class Program {
    static final int NEGATE = 1;
    static final int LOAD = 2;
    static final int CHECK_PLACE = 3;
    static final int STORE = 4;
    static final int NO_NUMBER = -1;

    /** No line has more entries than bytes, and no text more lines than bytes. */
    private final Row code = new Row(Tokens.TEXT_LIMIT);
    private final Row starts = new Row(Tokens.TEXT_LIMIT);
    private final Row kinds = new Row(Tokens.TEXT_LIMIT);
    private final Row labels = new Row(Tokens.TEXT_LIMIT);
    private final Row labelPlaces = new Row(Tokens.TEXT_LIMIT);
    private final Row numbers = new Row(Tokens.TEXT_LIMIT);
    private final Row numberPlaces = new Row(Tokens.TEXT_LIMIT);
    private final Row targets = new Row(Tokens.TEXT_LIMIT);

    void clear() {
      code.cut(0);
      starts.cut(0);
      kinds.cut(0);
      labels.cut(0);
      labelPlaces.cut(0);
      numbers.cut(0);
      numberPlaces.cut(0);
      targets.cut(0);
    }

    int size() {
      return starts.size();
    }

    void beginLine() {
      starts.add(code.size());
      kinds.add(Kind.NONE);
      labels.add(NO_NUMBER);
      labelPlaces.add(0);
      numbers.add(NO_NUMBER);
      numberPlaces.add(0);
      targets.add(0);
    }

    void labelLine(int number, int byteAt) {
      labels.set(size() - 1, number);
      labelPlaces.set(size() - 1, byteAt);
    }

    /** What the line's end does: the word, and the number behind its GOTO, DO or END. */
    void closeLine(int kind, int number, int byteAt) {
      kinds.set(size() - 1, kind);
      numbers.set(size() - 1, number);
      numberPlaces.set(size() - 1, byteAt);
    }

    int codeStart(int line) {
      return line < size() ? starts.get(line) : code.size();
    }

    int entry(int index) {
      return code.get(index);
    }

    int kindOf(int line) {
      return kinds.get(line);
    }

    int label(int line) {
      return labels.get(line);
    }

    int labelPlace(int line) {
      return labelPlaces.get(line);
    }

    int number(int line) {
      return numbers.get(line);
    }

    int numberPlace(int line) {
      return numberPlaces.get(line);
    }

    int target(int line) {
      return targets.get(line);
    }

    void aim(int line, int target) {
      targets.set(line, target);
    }

    /** The first line below the bound that bears the number; the bound if none does. */
    int labelled(int number, int bound) {
      for (int line = 0; line < bound; line++) {
        if (labels.get(line) == number) {
          return line;
        }
      }
      return bound;
    }
  }

  /**
   * Reads lines by the grammar and writes their code. Each part answers whether it was there; if
   * it was not, the token at hand is the one at fault.
   */
  private static final class Reader {
    private static final int DEPTH_LIMIT = 20;

    private final Tokens tokens;
    private Program out;
    private int at;

    Reader(Tokens tokens, Program out) {
      this.tokens = tokens;
      this.out = out;
    }

    /** Where the fault 1 of the latest translate() is, if it answered false. */
    int faultPlace() {
      return tokens.start(at);
    }

    boolean translate(Program into) {
      out = into;
      out.clear();
      at = 0;
      for (int lines = 0; lines <= Tokens.TEXT_LIMIT && at < tokens.size(); lines++) {
        out.beginLine();
        if (!label() || !rest() || !take(Kind.LINE_END)) {
          return false;
        }
      }
      return true;
    }

    private boolean label() {
      if (!take('N')) {
        return true;
      }
      out.labelLine(tokens.worth(at), tokens.start(at));
      return take(Kind.WHOLE);
    }

    /** Where no rest begins, the line must end: translate() looks at that. */
    private boolean rest() {
      int word = tokens.kind(at);
      switch (word) {
        case '#':
          at++;
          return placePart(0) && write(Program.CHECK_PLACE)
              && take('=') && sum(0) && write(Program.STORE);
        case Kind.IF:
          at++;
          return bracket(0) && take(Kind.GOTO) && numberOf(word);
        case Kind.WHILE:
          at++;
          return bracket(0) && take(Kind.DO) && numberOf(word);
        case Kind.GOTO:
        case Kind.END:
          at++;
          return numberOf(word);
        default:
          return true;
      }
    }

    private boolean numberOf(int word) {
      out.closeLine(word, tokens.worth(at), tokens.start(at));
      return take(Kind.WHOLE);
    }

    private boolean take(int kind) {
      if (tokens.kind(at) != kind) {
        return false;
      }
      at++;
      return true;
    }

    private boolean write(int action) {
      out.code.add(-action);
      return true;
    }

    private boolean literal() {
      out.code.add(tokens.worth(at));
      at++;
      return true;
    }

    private boolean placePart(int depth) {
      return tokens.kind(at) == Kind.WHOLE ? literal() : bracket(depth);
    }

    private boolean bracket(int depth) {
      return depth < DEPTH_LIMIT && take('[') && test(depth + 1) && take(']');
    }

    private boolean test(int depth) {
      if (!sum(depth)) {
        return false;
      }
      int comparison = tokens.kind(at);
      if (comparison < Kind.EQ || comparison > Kind.GE) {
        return true;
      }
      at++;
      return sum(depth) && write(comparison);
    }

    private boolean sum(int depth) {
      boolean fits = product(depth);
      for (int i = 0; i < Tokens.TEXT_LIMIT && fits && joinsProducts(tokens.kind(at)); i++) {
        int action = tokens.kind(at);
        at++;
        fits = product(depth) && write(action);
      }
      return fits;
    }

    private boolean product(int depth) {
      boolean fits = factor(depth);
      for (int i = 0; i < Tokens.TEXT_LIMIT && fits && joinsFactors(tokens.kind(at)); i++) {
        int action = tokens.kind(at);
        at++;
        fits = factor(depth) && write(action);
      }
      return fits;
    }

    private boolean factor(int depth) {
      int word = tokens.kind(at);
      switch (word) {
        case '-':
          return depth < DEPTH_LIMIT && take('-') && factor(depth + 1) && write(Program.NEGATE);
        case Kind.ABS:
        case Kind.FIX:
        case Kind.FUP:
        case Kind.ROOT:
          at++;
          return bracket(depth) && write(word);
        case '#':
          at++;
          return placePart(depth) && write(Program.LOAD);
        case Kind.WHOLE:
        case Kind.POINTED:
          return literal();
        default:
          return bracket(depth);
      }
    }

    private static boolean joinsProducts(int kind) {
      return kind == '+' || kind == '-' || kind == Kind.OR || kind == Kind.XOR;
    }

    private static boolean joinsFactors(int kind) {
      return kind == '*' || kind == '/' || kind == Kind.MOD || kind == Kind.AND;
    }
  }

  /** Joins the lines of a program that bear the same numbers, and finds its faults 2. */
  private static final class Links {
    private static final int LOOPS = 3;
    private static final int NO_LINE = -1;

    /** The byte of the first fault 2, or NO_PLACE. */
    static int join(Program program) {
      int fault = joinLoops(program);
      return fault != NO_PLACE ? fault : joinGotos(program);
    }

    /** The lines of the loops that are open form a chain, from the innermost one outwards. */
    private static int joinLoops(Program program) {
      int innermost = NO_LINE;
      for (int line = 0; line < program.size(); line++) {
        if (isRepeatedLabel(program, line)) {
          return program.labelPlace(line);
        }
        int kind = program.kindOf(line);
        if (kind == Kind.WHILE) {
          if (!mayOpen(program, line, innermost)) {
            return program.numberPlace(line);
          }
          program.aim(line, innermost);
          innermost = line;
        } else if (kind == Kind.END) {
          if (innermost == NO_LINE || program.number(innermost) != program.number(line)) {
            return program.numberPlace(line);
          }
          int outer = program.target(innermost);
          program.aim(innermost, line + 1);
          program.aim(line, innermost);
          innermost = outer;
        }
      }
      return outermostPlace(program, innermost);
    }

    private static boolean isRepeatedLabel(Program program, int line) {
      int label = program.label(line);
      return label != Program.NO_NUMBER && program.labelled(label, line) < line;
    }

    private static boolean mayOpen(Program program, int line, int innermost) {
      int number = program.number(line);
      if (number < 1000 || number > LOOPS * 1000) {
        return false;
      }
      int open = innermost;
      for (int i = 0; i < LOOPS && open != NO_LINE; i++) {
        if (program.number(open) == number) {
          return false;
        }
        open = program.target(open);
      }
      return true;
    }

    private static int outermostPlace(Program program, int innermost) {
      int place = NO_PLACE;
      int open = innermost;
      for (int i = 0; i < LOOPS && open != NO_LINE; i++) {
        place = program.numberPlace(open);
        open = program.target(open);
      }
      return place;
    }

    private static int joinGotos(Program program) {
      for (int line = 0; line < program.size(); line++) {
        int kind = program.kindOf(line);
        if (kind == Kind.GOTO || kind == Kind.IF) {
          int target = program.labelled(program.number(line), program.size());
          if (target == program.size()) {
            return program.numberPlace(line);
          }
          program.aim(line, target);
        }
      }
      return NO_PLACE;
    }
  }

  /** The variables, and the runs over them. */
  private static final class Machine {
    private static final int NO_ALARM = 0;
    private static final int BAD_OPERAND = 1;
    private static final int BAD_PLACE = 2;
    private static final int TOO_GREAT = 4;
    private static final int OUT_OF_FUEL = 15;
    private static final int VARIABLES = 199;
    /**
     * 20 brackets in one another leave at most three values each waiting (of a test, a sum and a
     * product), the line itself as many: its place, a sum and a product.
     */
    private static final int PILE_LENGTH = 80;

    private final long[] variables = new long[VARIABLES + 1];
    private final long[] pile = new long[PILE_LENGTH];
    private int height;
    private int alarm;
    private int alarmLine;
    private int steps;

    int alarmLine() {
      return alarmLine;
    }

    int stepsDone() {
      return steps;
    }

    long valueOf(int n) {
      return isVariable(n) ? variables[n] : 0;
    }

    boolean setValue(int n, long value) {
      if (!isVariable(n) || Values.isTooGreat(value)) {
        return false;
      }
      variables[n] = value;
      return true;
    }

    private boolean isVariable(long n) {
      return n >= 1 && n <= VARIABLES && n < variables.length;
    }

    int perform(Program program, int fuel) {
      alarm = NO_ALARM;
      alarmLine = 0;
      steps = 0;
      int line = 0;
      while (steps < fuel && line < program.size() && alarm == NO_ALARM) {
        steps++;
        int following = doLine(program, line);
        line = alarm == NO_ALARM ? following : line;
      }
      if (alarm == NO_ALARM && line < program.size()) {
        alarm = OUT_OF_FUEL;
      }
      if (alarm != NO_ALARM) {
        alarmLine = line + 1;
      }
      return alarm;
    }

    /** Does the line, and tells which one follows it. */
    private int doLine(Program program, int line) {
      height = 0;
      int codeEnd = program.codeStart(line + 1);
      for (int i = program.codeStart(line); i < codeEnd && alarm == NO_ALARM; i++) {
        doEntry(program.entry(i));
      }
      switch (program.kindOf(line)) {
        case Kind.GOTO:
        case Kind.END:
          return program.target(line);
        case Kind.IF:
          return pop() != 0 ? program.target(line) : line + 1;
        case Kind.WHILE:
          return pop() == 0 ? program.target(line) : line + 1;
        default:
          return line + 1;
      }
    }

    private void doEntry(int entry) {
      if (entry >= 0) {
        push(entry);
        return;
      }
      int action = -entry;
      switch (action) {
        case Program.CHECK_PLACE:
          push(checkedPlace(pop()));
          break;
        case Program.LOAD:
          load();
          break;
        case Program.STORE:
          store();
          break;
        case Program.NEGATE:
        case Kind.ABS:
        case Kind.FIX:
        case Kind.FUP:
        case Kind.ROOT:
          workOutOne(action);
          break;
        default:
          workOutTwo(action);
          break;
      }
    }

    private long checkedPlace(long thousandths) {
      long n = thousandths / 1000;
      if (n * 1000 != thousandths || !isVariable(n)) {
        alarm = BAD_PLACE;
        return 0;
      }
      return n;
    }

    private void load() {
      int n = (int) checkedPlace(pop());
      push(valueOf(n));
    }

    private void store() {
      long value = pop();
      int n = (int) pop();
      setValue(n, value);
    }

    private void workOutOne(int action) {
      long a = pop();
      if (action == Kind.ROOT && a < 0) {
        alarm = BAD_OPERAND;
      } else {
        pushResult(Values.ofOne(action, a));
      }
    }

    private void workOutTwo(int action) {
      long b = pop();
      long a = pop();
      if (b == 0 && (action == '/' || action == Kind.MOD)) {
        alarm = BAD_OPERAND;
      } else {
        pushResult(Values.ofTwo(action, a, b));
      }
    }

    private void pushResult(long result) {
      if (Values.isTooGreat(result)) {
        alarm = TOO_GREAT;
      } else {
        push(result);
      }
    }

    private void push(long value) {
      if (height >= 0 && height < pile.length) {
        pile[height] = value;
        height++;
      }
    }

    private long pop() {
      if (height <= 0 || height > pile.length) {
        return 0;
      }
      height--;
      return pile[height];
    }
  }

  /** The operations on values, which are whole thousandths. */
  private static final class Values {
    private static final long GREATEST = 1000000000000L;
    /** Products above this one, in millionths, are too great even when they are cut. */
    private static final long GREATEST_PRODUCT = GREATEST * 1000 + 999;
    private static final long HIGHEST_ROOT_BIT = 1L << 24;

    static boolean isTooGreat(long value) {
      return value > GREATEST || value < -GREATEST;
    }

    static long ofOne(int action, long a) {
      switch (action) {
        case Kind.ABS:
          return Math.abs(a);
        case Kind.FIX:
          return Math.floorDiv(a, 1000L) * 1000;
        case Kind.FUP:
          return -(Math.floorDiv(-a, 1000L) * 1000);
        case Kind.ROOT:
          return root(a);
        default:
          return -a;
      }
    }

    static long ofTwo(int action, long a, long b) {
      switch (action) {
        case '+':
          return a + b;
        case '-':
          return a - b;
        case '*':
          return product(a, b);
        case '/':
          return b == 0 ? 0 : a * 1000 / b;
        case Kind.MOD:
          return b == 0 ? 0 : Math.floorMod(a, b);
        default:
          return holds(action, a, b) ? 1000 : 0;
      }
    }

    /** Too great a product is answered by a value that is too great, as a * b may not fit. */
    private static long product(long a, long b) {
      long size = Math.abs(a);
      if (size != 0 && Math.abs(b) > GREATEST_PRODUCT / size) {
        return GREATEST + 1;
      }
      return a * b / 1000;
    }

    private static boolean holds(int action, long a, long b) {
      switch (action) {
        case Kind.AND:
          return a != 0 && b != 0;
        case Kind.OR:
          return a != 0 || b != 0;
        case Kind.XOR:
          return (a != 0) != (b != 0);
        case Kind.EQ:
          return a == b;
        case Kind.NE:
          return a != b;
        case Kind.LT:
          return a < b;
        case Kind.LE:
          return a <= b;
        case Kind.GT:
          return a > b;
        default:
          return a >= b;
      }
    }

    /** Finds the root's bits from the highest down: no value's root has one above it. */
    private static long root(long a) {
      long root = 0;
      for (long bit = HIGHEST_ROOT_BIT; bit > 0; bit /= 2) {
        long larger = root + bit;
        if (larger * larger <= a * 1000) {
          root = larger;
        }
      }
      return root;
    }
  }
}
