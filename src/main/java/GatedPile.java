import java.util.Arrays;

/** A small language taken down to orders, to words, and to a processor of NAND gates and flip-flops. */
public final class GatedPile {
  public static final int NONE = -1;

  private static final int MALFORMED = 1;
  private static final int NAME = 2;
  private static final int ARGUMENTS = 3;
  private static final int MAIN = 4;
  private static final int LARGE = 5;
  private static final int CLOCKS_AT_ONCE = 5000;
  private static final int CLOCKS_OF_A_RUN = 20000;
  private static final int FULL = -2;
  private static final int UNENDED = -3;

  private final Text text;
  private final Tops tops;
  private final Grammar grammar;
  private final Maker maker;
  private final Layer layer;
  private final Net circuit;
  private final Machine machine;
  private Code code;
  // A text that turns out faulty must leave the CODE that was: it is made here and changes places when it is good.
  private Code draft;
  private boolean judged;
  private int faultKind;
  private int faultPlace;

  public GatedPile() {
    text = new Text();
    tops = new Tops();
    grammar = new Grammar(text);
    maker = new Maker(text, tops);
    layer = new Layer(tops);
    circuit = new Net();
    machine = new Machine();
    code = new Code();
    draft = new Code();
    new Wiring(circuit).build();
  }

  public int feed(int a, int b, int c, int d, int e) {
    if (!text.hasRoomFor(20)) return NONE;
    text.take(a);
    text.take(b);
    text.take(c);
    text.take(d);
    text.take(e);
    return text.length;
  }

  public int end(int n) {
    if (n < 0 || n > text.length) return NONE;
    text.length = n;
    return n;
  }

  public int compile() {
    judged = true;
    faultKind = 0;
    faultPlace = NONE;
    tops.begin();
    text.cut(tops);
    if (grammar.holds()) {
      tops.gather(text);
      maker.make(draft);
      if (maker.nameFault != Text.NOWHERE) blame(NAME, maker.nameFault);
      else if (maker.callFault != Text.NOWHERE) blame(ARGUMENTS, maker.callFault);
      else if (tops.mainNumber() == NONE) blame(MAIN, text.length);
      else if (tops.exceeds() || maker.large || !layer.lay(draft)) blame(LARGE, text.length);
    } else {
      blame(MALFORMED, text.placeOf(grammar.at));
    }
    text.length = 0;
    if (faultKind != 0) return NONE;
    Code made = draft;
    draft = code;
    code = made;
    return code.size;
  }

  private void blame(int kind, int place) {
    faultKind = kind;
    faultPlace = place;
  }

  public int fault(int what) {
    if (!judged) return NONE;
    if (what == 0) return faultKind;
    return what == 1 ? faultPlace : NONE;
  }

  public int count(int what) {
    switch (what) {
      case 0: return code.procedures;
      case 1: return code.conditions;
      case 2: return code.orders;
      case 3: return code.size;
      case 4: return code.globals;
      case 5: return circuit.wires - Net.FIRST_GATE;
      case 6: return circuit.deepest;
      case 7: return text.length;
      case 8: return machine.inputsLeft();
      case 9: return machine.outputs;
      case 10: return machine.clocks;
      default: return NONE;
    }
  }

  public int order(int i, int what) {
    if (i < 0 || i >= code.orders) return NONE;
    switch (what) {
      case 0: return code.number[i];
      case 1: return code.operand[i];
      case 2: return code.link[i];
      case 3: return code.place[i];
      default: return NONE;
    }
  }

  public int proc(int p, int what) {
    if (p < 0 || p >= code.procedures) return NONE;
    switch (what) {
      case 0: return code.parameters[p];
      case 1: return code.frame[p];
      case 2: return code.want[p];
      case 3: return code.enter[p];
      default: return NONE;
    }
  }

  public int word(int at) {
    return at < 0 || at >= code.size ? NONE : code.words[at];
  }

  public int net(int wire, int w) {
    if (w == 0 && wire >= Net.PC && wire < Net.DATA) return circuit.left[wire];
    if (wire < Net.FIRST_GATE || wire >= circuit.wires) return NONE;
    if (w == 0) return circuit.left[wire];
    return w == 1 ? circuit.right[wire] : NONE;
  }

  public boolean input(int v) {
    circuit.settled = 0;
    return machine.receive(v);
  }

  public void clear() {
    circuit.settled = 0;
    machine.forgetInput();
  }

  public boolean reset() {
    if (code.size == 0) return false;
    circuit.settled = 0;
    machine.restart(code);
    return true;
  }

  public int clock(int n) {
    if (n < 0 || n > CLOCKS_AT_ONCE) return NONE;
    circuit.settled = 0;
    return machine.advance(n);
  }

  public int run() {
    if (code.size == 0) return NONE;
    circuit.settled = 0;
    machine.restart(code);
    machine.advance(CLOCKS_OF_A_RUN);
    if (!machine.halted()) return UNENDED;
    int condition = Machine.signed(machine.registers[4]);
    return condition == -1 ? FULL : condition;
  }

  public int wire(int k) {
    if (k < 0 || k >= circuit.wires) return NONE;
    if (circuit.settled == 0) {
      machine.show(circuit.value);
      circuit.settled = Net.FIRST_GATE;
    }
    return circuit.settle(k);
  }

  public int look(int k) {
    if (k >= 0 && k <= 7) return Machine.signed(machine.registers[k]);
    switch (k) {
      case 8: return machine.pc;
      case 9: return machine.ir;
      case 10: return machine.mar;
      case 11: return machine.mdr;
      case 12: return machine.state;
      case 13: return machine.halted() ? 1 : 0;
      default: return NONE;
    }
  }

  public int memory(int at) {
    return at < 0 || at >= Machine.PLACES ? 0 : Machine.signed(machine.cells[at]);
  }

  public int output(int i) {
    return i < 0 || i >= Math.min(machine.outputs, Machine.MOST_OUTPUTS) ? 0 : Machine.signed(machine.sent[i]);
  }

  /** The tape, and the tokens that it is cut into. */
  private static final class Text {
    static final int MOST = 3000;
    // Behind every place that a text has.
    static final int NOWHERE = MOST + 1;
    static final int LONGEST_WORD = 12;
    static final int LARGEST_NUMBER = 32767;

    // A sign's kind is its own byte; two that stand together are their first byte and TWIN.
    static final int END = 0;
    static final int BAD = 1;
    static final int NAME = 2;
    static final int NUMBER = 3;
    static final int VAR = 4;
    static final int COND = 5;
    static final int PROC = 6;
    static final int RAISES = 7;
    static final int IF = 8;
    static final int ELSE = 9;
    static final int WHILE = 10;
    static final int TRY = 11;
    static final int WHEN = 12;
    static final int RAISE = 13;
    static final int RETURN = 14;
    static final int OUT = 15;
    static final int IN = 16;
    static final int TWIN = 256;
    static final String SIGNS = "(){}[];,=+-*/%<>";

    final byte[] tape = new byte[MOST];
    int length;
    final int[] kind = new int[MOST + 1];
    final int[] place = new int[MOST + 1];
    // A NUMBER's value, a NAME's number among the names, of a { the token that closes its BLOCK.
    final int[] value = new int[MOST + 1];
    int size;
    final long[] keys;

    Text() {
      keys = new long[] {
        Tops.codeOf("var"), Tops.codeOf("cond"), Tops.codeOf("proc"), Tops.codeOf("raises"), Tops.codeOf("if"),
        Tops.codeOf("else"), Tops.codeOf("while"), Tops.codeOf("try"), Tops.codeOf("when"), Tops.codeOf("raise"),
        Tops.codeOf("return"), Tops.codeOf("out"), Tops.codeOf("in")
      };
    }

    boolean hasRoomFor(int bytes) {
      return length + bytes <= MOST;
    }

    /** The four bytes of a number come behind the tape, the highest first. */
    void take(int four) {
      for (int shift = 24; shift >= 0 && length < MOST; shift -= 8) {
        tape[length] = (byte) (four >> shift);
        length++;
      }
    }

    int kindOf(int token) {
      return token < 0 || token >= size ? END : kind[token];
    }

    int placeOf(int token) {
      return token < 0 || token >= size ? length : place[token];
    }

    int valueOf(int token) {
      return token < 0 || token >= size ? 0 : value[token];
    }

    void setValue(int token, int newValue) {
      if (token >= 0 && token < size) value[token] = newValue;
    }

    /** The token behind the BLOCK that a token opens. */
    int behindBlock(int token) {
      return kindOf(token) == '{' ? valueOf(token) + 1 : size;
    }

    /** COMPARE's number of a sign, NONE for what is no comparison. */
    static int comparisonOf(int kind) {
      switch (kind) {
        case '<': return 0;
        case '>': return 1;
        case TWIN + '<': return 2;
        case TWIN + '>': return 3;
        case TWIN + '=': return 4;
        case TWIN + '!': return 5;
        default: return NONE;
      }
    }

    /** Cuts the tape into tokens, up to the first one that is wrong in itself. */
    void cut(Tops tops) {
      size = 0;
      int at = 0;
      for (int left = MOST; left > 0 && at < length; left--) {
        at = pastBlanks(at);
        if (at < length) at = cutToken(at, tops);
      }
      add(END, length, 0);
    }

    private int byteAt(int at) {
      return at < 0 || at >= length || at >= MOST ? NONE : tape[at] & 255;
    }

    private void add(int newKind, int newPlace, int newValue) {
      if (size > MOST) return;
      kind[size] = newKind;
      place[size] = newPlace;
      value[size] = newValue;
      size++;
    }

    private int pastBlanks(int from) {
      boolean remark = false;
      for (int at = from; at < length; at++) {
        int c = byteAt(at);
        if (c == '#') remark = true;
        else if (c == 10) remark = false;
        else if (!remark && c != 9 && c != 13 && c != 32) return at;
      }
      return length;
    }

    /** Cuts one token: where the next one may begin, the tape's end behind a wrong one. */
    private int cutToken(int at, Tops tops) {
      int c = byteAt(at);
      if (isLetter(c)) return cutWord(at, tops);
      return isDigit(c) ? cutNumber(at) : cutSign(at);
    }

    private int cutWord(int from, Tops tops) {
      long spelled = 0;
      int to = from;
      for (; to < length && (isLetter(byteAt(to)) || isDigit(byteAt(to))); to++) {
        if (to - from >= LONGEST_WORD) {
          add(BAD, to, 0);
          return length;
        }
        spelled = Tops.spell(spelled, byteAt(to));
      }
      for (int i = 0; i < keys.length; i++) {
        if (keys[i] == spelled) {
          add(VAR + i, from, 0);
          return to;
        }
      }
      add(NAME, from, tops.idOf(spelled));
      return to;
    }

    private int cutNumber(int from) {
      int number = 0;
      int to = from;
      for (; to < length && isDigit(byteAt(to)); to++) {
        number = Math.min(number * 10 + byteAt(to) - '0', LARGEST_NUMBER + 1);
      }
      if (number > LARGEST_NUMBER) {
        add(BAD, from, 0);
        return length;
      }
      add(NUMBER, from, number);
      return to;
    }

    private int cutSign(int at) {
      int c = byteAt(at);
      boolean mayBeTwin = c == '=' || c == '!' || c == '<' || c == '>';
      if (mayBeTwin && byteAt(at + 1) == '=') {
        add(TWIN + c, at, 0);
        return at + 2;
      }
      if (SIGNS.indexOf((char) c) < 0) {
        add(BAD, at, 0);
        return length;
      }
      add(c, at, 0);
      return at + 1;
    }

    private static boolean isLetter(int c) {
      return c >= 'a' && c <= 'z';
    }

    private static boolean isDigit(int c) {
      return c >= '0' && c <= '9';
    }
  }

  /** Judges whether the tokens are a PROGRAM; a method that answers false leaves `at` on the token at fault. */
  private static final class Grammar {
    static final int DEEPEST = 30;

    private final Text text;
    int at;

    Grammar(Text text) {
      this.text = text;
    }

    boolean holds() {
      at = 0;
      for (int left = text.size; left > 0 && here() != Text.END; left--) {
        if (!topPart()) return false;
      }
      return here() == Text.END;
    }

    private int here() {
      return text.kindOf(at);
    }

    private boolean accept(int kind) {
      if (text.kindOf(at) != kind) return false;
      at++;
      return true;
    }

    /** Accepts what may stand within no more than DEEPEST of its like, depth of which are open. */
    private boolean open(int kind, int depth) {
      if (depth >= DEEPEST || text.kindOf(at) != kind) return false;
      at++;
      return true;
    }

    private boolean topPart() {
      switch (here()) {
        case Text.VAR:
          at++;
          if (!accept(Text.NAME)) return false;
          if (accept('[') && !(accept(Text.NUMBER) && accept(']'))) return false;
          return accept(';');
        case Text.COND:
          at++;
          return names() && accept(';');
        case Text.PROC:
          at++;
          if (!accept(Text.NAME) || !accept('(')) return false;
          if (here() != ')' && !names()) return false;
          if (!accept(')')) return false;
          if (accept(Text.RAISES) && !names()) return false;
          return block(0);
        default:
          return false;
      }
    }

    private boolean names() {
      if (!accept(Text.NAME)) return false;
      for (int left = text.size; left > 0 && accept(','); left--) {
        if (!accept(Text.NAME)) return false;
      }
      return true;
    }

    private boolean block(int depth) {
      int opening = at;
      if (!open('{', depth)) return false;
      for (int left = text.size; left > 0 && here() != '}'; left--) {
        if (!statement(depth + 1)) return false;
      }
      text.setValue(opening, at);
      return accept('}');
    }

    private boolean statement(int depth) {
      int kind = here();
      if (kind != Text.END) at++;
      switch (kind) {
        case Text.VAR:
          return accept(Text.NAME) && accept('=') && expression(depth) && accept(';');
        case Text.NAME:
          return named(depth) && accept(';');
        case Text.IF:
          if (!expression(depth) || !block(depth)) return false;
          return !accept(Text.ELSE) || block(depth);
        case Text.WHILE:
          return expression(depth) && block(depth);
        case Text.TRY:
          return attempt(depth);
        case Text.RAISE:
          return accept(Text.NAME) && accept(';');
        case Text.RETURN:
        case Text.OUT:
          return expression(depth) && accept(';');
        default:
          if (kind != Text.END) at--;
          return false;
      }
    }

    /** What goes on behind the NAME that a statement begins with. */
    private boolean named(int depth) {
      if (here() == '(') return arguments(depth);
      if (here() == '[' && !index(depth)) return false;
      return accept('=') && expression(depth);
    }

    private boolean attempt(int depth) {
      if (!block(depth) || !when(depth)) return false;
      for (int left = text.size; left > 0 && here() == Text.WHEN; left--) {
        if (!when(depth)) return false;
      }
      return true;
    }

    private boolean when(int depth) {
      return accept(Text.WHEN) && accept(Text.NAME) && block(depth);
    }

    private boolean expression(int depth) {
      if (!sum(depth)) return false;
      if (Text.comparisonOf(here()) == NONE) return true;
      at++;
      return sum(depth);
    }

    private boolean sum(int depth) {
      if (!term(depth)) return false;
      for (int left = text.size; left > 0 && (here() == '+' || here() == '-'); left--) {
        at++;
        if (!term(depth)) return false;
      }
      return true;
    }

    private boolean term(int depth) {
      if (!factor(depth)) return false;
      for (int left = text.size; left > 0 && (here() == '*' || here() == '/' || here() == '%'); left--) {
        at++;
        if (!factor(depth)) return false;
      }
      return true;
    }

    private boolean factor(int depth) {
      switch (here()) {
        case '-':
          return open('-', depth) && factor(depth + 1);
        case '(':
          return open('(', depth) && expression(depth + 1) && accept(')');
        case Text.NUMBER:
        case Text.IN:
          at++;
          return true;
        case Text.NAME:
          at++;
          if (here() == '[') return index(depth);
          return here() != '(' || arguments(depth);
        default:
          return false;
      }
    }

    private boolean index(int depth) {
      return open('[', depth) && expression(depth + 1) && accept(']');
    }

    private boolean arguments(int depth) {
      if (!open('(', depth)) return false;
      if (accept(')')) return true;
      if (!expression(depth + 1)) return false;
      for (int left = text.size; left > 0 && accept(','); left--) {
        if (!expression(depth + 1)) return false;
      }
      return accept(')');
    }
  }

  /** The names of a text, and what stands at its top: vars, conditions, procs. */
  private static final class Tops {
    static final int NOTHING = 0;
    static final int VAR = 1;
    static final int ROW = 2;
    static final int CONDITION = 3;
    static final int PROCEDURE = 4;

    // What a text of 3000 bytes has room for: a name and what parts it from the next one, 'var a;', 'proc a(){}'.
    static final int MOST_NAMES = Text.MOST / 2 + 10;
    static final int MOST_VARS = Text.MOST / 6;
    static final int MOST_PROCEDURES = Text.MOST / 10;
    // What is no fault yet.
    private static final int FINE_CONDITIONS = 30;
    private static final int FINE_VARS = 60;
    private static final int FINE_PARAMETERS = 8;
    private static final int FINE_LENGTH = 500;

    final long[] spelled = new long[MOST_NAMES];
    final int[] kinds = new int[MOST_NAMES];
    final int[] numbers = new int[MOST_NAMES];
    // The number of the LOCAL that holds now, NONE without one.
    final int[] locals = new int[MOST_NAMES];
    int names;
    int vars;
    int conditions;
    int procedures;
    int globals;
    // Where a var's words begin among the GLOBALS, and how many they are.
    final int[] offsets = new int[MOST_VARS];
    final int[] lengths = new int[MOST_VARS];
    final int[] parameters = new int[MOST_PROCEDURES];
    // The names behind raises, those of proc p from raisedFrom[p] up to raisedFrom[p + 1].
    final int[] raised = new int[MOST_NAMES];
    final int[] raisedFrom = new int[MOST_PROCEDURES + 1];
    int raisedNames;
    // The first place of a TOP NAME that is one already.
    int fault;
    private boolean large;

    /** A WORD's code with one byte more: at most twelve of 36 bytes, so that each WORD has a code of its own. */
    static long spell(long code, int c) {
      return code * 37 + (c >= 'a' ? c - 'a' + 1 : c - '0' + 27);
    }

    static long codeOf(String word) {
      long code = 0;
      for (int i = 0; i < word.length(); i++) code = spell(code, word.charAt(i));
      return code;
    }

    /** Nothing is told but the five conditions. */
    void begin() {
      names = 0;
      vars = 0;
      conditions = 0;
      procedures = 0;
      globals = 0;
      raisedNames = 0;
      fault = Text.NOWHERE;
      large = false;
      tellAhead("range");
      tellAhead("index");
      tellAhead("divide");
      tellAhead("empty");
      tellAhead("error");
    }

    private void tellAhead(String word) {
      int id = idOf(codeOf(word));
      conditions++;
      kinds[id] = CONDITION;
      numbers[id] = conditions;
    }

    int idOf(long code) {
      for (int id = 0; id < names; id++) {
        if (spelled[id] == code) return id;
      }
      if (names >= MOST_NAMES) return 0;
      spelled[names] = code;
      kinds[names] = NOTHING;
      numbers[names] = NONE;
      locals[names] = NONE;
      names++;
      return names - 1;
    }

    int kindOf(int id) {
      return id < 0 || id >= names ? NOTHING : kinds[id];
    }

    int numberOf(int id) {
      return id < 0 || id >= names ? NONE : numbers[id];
    }

    int localOf(int id) {
      return id < 0 || id >= names ? NONE : locals[id];
    }

    void setLocal(int id, int number) {
      if (id >= 0 && id < names) locals[id] = number;
    }

    int parametersOf(int p) {
      return p < 0 || p >= procedures ? 0 : parameters[p];
    }

    int offsetOf(int v) {
      return v < 0 || v >= vars ? 0 : offsets[v];
    }

    int lengthOf(int v) {
      return v < 0 || v >= vars ? 0 : lengths[v];
    }

    /** The number of the proc main without parameters, NONE without one. */
    int mainNumber() {
      int id = idOf(codeOf("main"));
      return kindOf(id) == PROCEDURE && parametersOf(numberOf(id)) == 0 ? numberOf(id) : NONE;
    }

    boolean exceeds() {
      return large || procedures > Code.MOST_PROCEDURES || conditions > FINE_CONDITIONS || vars > FINE_VARS;
    }

    void gather(Text text) {
      int at = 0;
      for (int left = text.size; left > 0 && text.kindOf(at) != Text.END; left--) {
        int kind = text.kindOf(at);
        at++;
        if (kind == Text.VAR) at = gatherVar(text, at);
        else if (kind == Text.COND) at = gatherConditions(text, at);
        else if (kind == Text.PROC) at = gatherProcedure(text, at);
      }
      raisedFrom[Math.min(procedures, MOST_PROCEDURES)] = raisedNames;
    }

    private void tell(Text text, int token, int kind, int number) {
      int id = text.valueOf(token);
      if (kindOf(id) != NOTHING) {
        fault = Math.min(fault, text.placeOf(token));
      } else if (id >= 0 && id < names) {
        kinds[id] = kind;
        numbers[id] = number;
      }
    }

    private int gatherVar(Text text, int token) {
      boolean isRow = text.kindOf(token + 1) == '[';
      int length = isRow ? text.valueOf(token + 2) : 1;
      if (length < 1 || length > FINE_LENGTH) large = true;
      tell(text, token, isRow ? ROW : VAR, vars);
      if (vars < MOST_VARS) {
        offsets[vars] = globals;
        lengths[vars] = length;
        vars++;
      }
      globals += length;
      return isRow ? token + 5 : token + 2;
    }

    private int gatherConditions(Text text, int first) {
      int token = first;
      for (; token < text.size && text.kindOf(token) != ';'; token++) {
        if (text.kindOf(token) != Text.NAME) continue;
        conditions++;
        tell(text, token, CONDITION, conditions);
      }
      return token + 1;
    }

    private int gatherProcedure(Text text, int name) {
      tell(text, name, PROCEDURE, procedures);
      int token = name + 1;
      int told = 0;
      for (; token < text.size && text.kindOf(token) != ')'; token++) {
        if (text.kindOf(token) == Text.NAME) told++;
      }
      if (told > FINE_PARAMETERS) large = true;
      if (procedures < MOST_PROCEDURES) {
        parameters[procedures] = told;
        raisedFrom[procedures] = raisedNames;
        procedures++;
      }
      for (; token < text.size && text.kindOf(token) != '{'; token++) {
        if (text.kindOf(token) == Text.NAME && raisedNames < MOST_NAMES) {
          raised[raisedNames] = text.valueOf(token);
          raisedNames++;
        }
      }
      return text.behindBlock(token);
    }
  }

  /** What a text has been made to: orders, procs and words. */
  private static final class Code {
    static final int ENTER = 0;
    static final int PUSH = 1;
    static final int GET = 2;
    static final int PUT = 3;
    static final int FETCH = 4;
    static final int KEEP = 5;
    static final int AT = 6;
    static final int SET = 7;
    static final int ADD = 8;
    static final int SUB = 9;
    static final int MUL = 10;
    static final int DIV = 11;
    static final int MOD = 12;
    static final int NEG = 13;
    static final int COMPARE = 14;
    static final int JUMP = 15;
    static final int UNLESS = 16;
    static final int CALL = 17;
    static final int DROP = 18;
    static final int IN = 19;
    static final int OUT = 20;
    static final int RAISE = 21;
    static final int RETURN = 22;
    static final int HANDLE = 23;
    static final int WHEN = 24;
    static final int PASS = 25;
    static final int LEAVE = 26;

    // Each order has a byte of the text to itself.
    static final int MOST_ORDERS = Text.MOST;
    static final int MOST_PROCEDURES = 40;
    static final int MOST_WORDS = 6000;

    int orders;
    final int[] number = new int[MOST_ORDERS];
    final int[] operand = new int[MOST_ORDERS];
    final int[] link = new int[MOST_ORDERS];
    final int[] place = new int[MOST_ORDERS];
    int procedures;
    final int[] parameters = new int[MOST_PROCEDURES];
    final int[] frame = new int[MOST_PROCEDURES];
    final int[] want = new int[MOST_PROCEDURES];
    final int[] enter = new int[MOST_PROCEDURES];
    int conditions;
    int globals;
    int size;
    final int[] words = new int[MOST_WORDS];

    void addOrder(int newNumber, int newOperand, int newLink) {
      if (orders >= MOST_ORDERS) return;
      number[orders] = newNumber;
      operand[orders] = newOperand;
      link[orders] = newLink;
      orders++;
    }

    int placeOf(int i) {
      return i < 0 || i >= orders ? 0 : place[i];
    }

    int enterOf(int p) {
      return p < 0 || p >= MOST_PROCEDURES ? NONE : enter[p];
    }

    int parametersOf(int p) {
      return p < 0 || p >= MOST_PROCEDURES ? 0 : parameters[p];
    }

    int frameOf(int p) {
      return p < 0 || p >= MOST_PROCEDURES ? 0 : frame[p];
    }

    int wantOf(int p) {
      return p < 0 || p >= MOST_PROCEDURES ? 0 : want[p];
    }
  }

  /** Goes through the tokens of a PROGRAM: makes its orders, and finds the faults of its names and calls. */
  private static final class Maker {
    // How many more stand on the pile behind an order (of CALL without its arguments).
    private static final int[] PUSHES = {
      0, 1, 1, -1, 1, -1, 0, -2, -1, -1, -1, -1, -1, 0, -1, 0, -1, 1, -1, 1, -1, 0, -1, 0, 0, 0, 0
    };
    private static final int MOST_OTHERS = 16;

    private final Text text;
    private final Tops tops;
    private Code code;
    private int at;
    private int procedure;
    // The label of where a condition goes on.
    private int handler;
    // The names of the LOCALS that hold.
    private final int[] holding = new int[Tops.MOST_NAMES];
    private int locals;
    private int mostLocals;
    private int pushed;
    private int mostPushed;
    // Orders link to labels while they are made; a label tells its order.
    private final int[] labels = new int[Text.MOST];
    private int labelCount;
    int nameFault;
    int callFault;
    boolean large;

    Maker(Text text, Tops tops) {
      this.text = text;
      this.tops = tops;
    }

    void make(Code draft) {
      code = draft;
      code.orders = 0;
      labelCount = 0;
      at = 0;
      procedure = 0;
      nameFault = tops.fault;
      callFault = Text.NOWHERE;
      large = false;
      for (int left = text.size; left > 0 && here() != Text.END; left--) {
        if (here() == Text.PROC) makeProcedure();
        else at++;
      }
      for (int i = 0; i < code.orders; i++) code.link[i] = labelled(code.link[i]);
      code.procedures = Math.min(procedure, Code.MOST_PROCEDURES);
      code.conditions = tops.conditions;
      code.globals = tops.globals;
    }

    private int here() {
      return text.kindOf(at);
    }

    private int newLabel() {
      if (labelCount >= labels.length) return NONE;
      labels[labelCount] = NONE;
      labelCount++;
      return labelCount - 1;
    }

    private void setLabel(int label) {
      if (label >= 0 && label < labelCount) labels[label] = code.orders;
    }

    private int labelled(int label) {
      return label < 0 || label >= labelCount ? NONE : labels[label];
    }

    private void emit(int number, int operand, int label) {
      code.addOrder(number, operand, label);
      if (number >= 0 && number < PUSHES.length) pushed += PUSHES[number];
      mostPushed = Math.max(mostPushed, pushed);
    }

    private void blame(int token) {
      if (token >= 0 && token < text.size && text.place[token] < nameFault) nameFault = text.place[token];
    }

    private void tellLocal(int token) {
      int id = text.valueOf(token);
      if (tops.kindOf(id) != Tops.NOTHING || tops.localOf(id) != NONE) blame(token);
      if (locals >= holding.length) return;
      tops.setLocal(id, locals);
      holding[locals] = id;
      locals++;
      mostLocals = Math.max(mostLocals, locals);
    }

    private void forgetLocals(int kept) {
      for (; locals > kept && locals > 0; locals--) tops.setLocal(holding[locals - 1], NONE);
    }

    private int use(int token, int kind) {
      int id = text.valueOf(token);
      if (tops.kindOf(id) != kind) blame(token);
      return tops.numberOf(id);
    }

    private void makeProcedure() {
      locals = 0;
      mostLocals = 0;
      pushed = 0;
      mostPushed = 0;
      int first = code.orders;
      at += 2;
      for (; at < text.size && here() != ')'; at++) {
        if (here() == Text.NAME) tellLocal(at);
      }
      int told = locals;
      at++;
      checkRaises();
      handler = newLabel();
      emit(Code.ENTER, procedure, NONE);
      makeBlock(0);
      emit(Code.PUSH, 0, NONE);
      emit(Code.RETURN, procedure, NONE);
      setLabel(handler);
      emit(Code.LEAVE, procedure, NONE);
      forgetLocals(0);
      if (mostLocals - told > MOST_OTHERS) large = true;
      keepProcedure(told, first);
      procedure++;
    }

    private void keepProcedure(int told, int first) {
      if (procedure < 0 || procedure >= Code.MOST_PROCEDURES) return;
      int frame = mostLocals + 2;
      code.parameters[procedure] = told;
      code.frame[procedure] = frame;
      code.want[procedure] = frame - told + mostPushed + 3;
      code.enter[procedure] = first;
    }

    /** What stands ahead of a proc's BLOCK, behind its parameters. */
    private void checkRaises() {
      int first = at + 1;
      for (; at < text.size && here() != '{'; at++) {
        if (here() != Text.NAME) continue;
        use(at, Tops.CONDITION);
        for (int earlier = first; earlier < at; earlier += 2) {
          if (text.valueOf(earlier) == text.valueOf(at)) blame(at);
        }
      }
    }

    private void makeBlock(int depth) {
      if (depth >= Grammar.DEEPEST) return;
      int kept = locals;
      at++;
      for (int left = text.size; left > 0 && here() != '}' && here() != Text.END; left--) makeStatement(depth + 1);
      at++;
      forgetLocals(kept);
    }

    private void makeStatement(int depth) {
      int first = at;
      at++;
      switch (text.kindOf(first)) {
        case Text.VAR:
          at += 2;
          makeExpression(depth);
          emit(Code.PUT, locals, NONE);
          tellLocal(first + 1);
          at++;
          break;
        case Text.NAME:
          makeNamed(first, depth);
          at++;
          break;
        case Text.IF:
          makeIf(depth);
          break;
        case Text.WHILE:
          makeWhile(depth);
          break;
        case Text.TRY:
          makeTry(depth);
          break;
        case Text.RAISE:
          emit(Code.RAISE, use(at, Tops.CONDITION), handler);
          at += 2;
          break;
        case Text.RETURN:
          makeExpression(depth);
          emit(Code.RETURN, procedure, NONE);
          at++;
          break;
        default:
          makeExpression(depth);
          emit(Code.OUT, 0, NONE);
          at++;
          break;
      }
    }

    /** A statement that begins with a NAME: what stands behind that, up to the ; . */
    private void makeNamed(int name, int depth) {
      if (here() == '(') {
        makeCall(name, depth);
        emit(Code.DROP, 0, NONE);
        return;
      }
      if (here() == '[') {
        int row = use(name, Tops.ROW);
        makeInner(depth);
        at++;
        makeExpression(depth);
        emit(Code.SET, row, handler);
        return;
      }
      at++;
      makeExpression(depth);
      int local = tops.localOf(text.valueOf(name));
      if (local != NONE) emit(Code.PUT, local, NONE);
      else emit(Code.KEEP, use(name, Tops.VAR), NONE);
    }

    private void makeIf(int depth) {
      int otherwise = newLabel();
      makeExpression(depth);
      emit(Code.UNLESS, 0, otherwise);
      makeBlock(depth);
      if (here() != Text.ELSE) {
        setLabel(otherwise);
        return;
      }
      int behind = newLabel();
      emit(Code.JUMP, 0, behind);
      setLabel(otherwise);
      at++;
      makeBlock(depth);
      setLabel(behind);
    }

    private void makeWhile(int depth) {
      int again = newLabel();
      int behind = newLabel();
      setLabel(again);
      makeExpression(depth);
      emit(Code.UNLESS, 0, behind);
      makeBlock(depth);
      emit(Code.JUMP, 0, again);
      setLabel(behind);
    }

    private void makeTry(int depth) {
      int outer = handler;
      int behind = newLabel();
      int handle = newLabel();
      handler = handle;
      makeBlock(depth);
      handler = outer;
      emit(Code.JUMP, 0, behind);
      setLabel(handle);
      emit(Code.HANDLE, procedure, NONE);
      int label = labelCount;
      makeWhens();
      emit(Code.PASS, 0, handler);
      for (int left = text.size; left > 0 && here() == Text.WHEN; left--) {
        at += 2;
        setLabel(label);
        label++;
        makeBlock(depth);
        emit(Code.JUMP, 0, behind);
      }
      setLabel(behind);
    }

    /** The WHENs of a try, whose first when is here, each with a new label for its BLOCK. */
    private void makeWhens() {
      int when = at;
      for (int left = text.size; left > 0 && text.kindOf(when) == Text.WHEN; left--) {
        emit(Code.WHEN, use(when + 1, Tops.CONDITION), newLabel());
        int earlier = at;
        for (int i = text.size; i > 0 && earlier < when; i--) {
          if (text.valueOf(earlier + 1) == text.valueOf(when + 1)) blame(when + 1);
          earlier = text.behindBlock(earlier + 2);
        }
        when = text.behindBlock(when + 2);
      }
    }

    private void makeExpression(int depth) {
      makeSum(depth);
      int comparison = Text.comparisonOf(here());
      if (comparison == NONE) return;
      at++;
      makeSum(depth);
      emit(Code.COMPARE, comparison, NONE);
    }

    private void makeSum(int depth) {
      makeTerm(depth);
      for (int left = text.size; left > 0 && (here() == '+' || here() == '-'); left--) {
        int number = here() == '+' ? Code.ADD : Code.SUB;
        at++;
        makeTerm(depth);
        emit(number, 0, handler);
      }
    }

    private void makeTerm(int depth) {
      makeFactor(depth);
      for (int left = text.size; left > 0 && (here() == '*' || here() == '/' || here() == '%'); left--) {
        int number = here() == '*' ? Code.MUL : here() == '/' ? Code.DIV : Code.MOD;
        at++;
        makeFactor(depth);
        emit(number, 0, handler);
      }
    }

    private void makeFactor(int depth) {
      if (depth > Grammar.DEEPEST) return;
      int first = at;
      switch (here()) {
        case '-':
          at++;
          makeFactor(depth + 1);
          emit(Code.NEG, 0, handler);
          break;
        case '(':
          makeInner(depth);
          break;
        case Text.NUMBER:
          at++;
          emit(Code.PUSH, text.valueOf(first), NONE);
          break;
        case Text.IN:
          at++;
          emit(Code.IN, 0, handler);
          break;
        default:
          at++;
          makeValue(first, depth);
          break;
      }
    }

    /** An E between brackets. */
    private void makeInner(int depth) {
      at++;
      makeExpression(depth + 1);
      at++;
    }

    /** The value that a NAME in an E gives: a call's, an array's, a LOCAL's or a var's. */
    private void makeValue(int name, int depth) {
      if (here() == '(') {
        makeCall(name, depth);
        return;
      }
      if (here() == '[') {
        int row = use(name, Tops.ROW);
        makeInner(depth);
        emit(Code.AT, row, handler);
        return;
      }
      int local = tops.localOf(text.valueOf(name));
      if (local != NONE) emit(Code.GET, local, NONE);
      else emit(Code.FETCH, use(name, Tops.VAR), NONE);
    }

    private void makeCall(int name, int depth) {
      int called = use(name, Tops.PROCEDURE);
      int given = 0;
      at++;
      for (int left = text.size; left > 0 && here() != ')' && here() != Text.END; left--) {
        makeExpression(depth + 1);
        given++;
        if (here() == ',') at++;
      }
      at++;
      if (given != tops.parametersOf(called)) callFault = Math.min(callFault, text.placeOf(name));
      pushed -= given;
      emit(Code.CALL, called, handler);
    }
  }

  /** Lays the words of orders. */
  private static final class Layer {
    // Four numbers a word: its op, d, a, and b or the number in it.
    private static final int[] MULTIPLY = {
      Machine.XOR, 3, 0, 1, Machine.STORE, 5, 7, 0, Machine.LI, 2, 0, 0, Machine.JZ, 0, 0, 24,
      Machine.JN, 0, 0, 2, Machine.LI, 5, 0, 0, Machine.SUB, 0, 5, 0, Machine.JN, 1, 0, 1,
      Machine.JUMP, 0, 0, 2, Machine.LI, 5, 0, 0, Machine.SUB, 1, 5, 1, Machine.JZ, 1, 0, 12,
      Machine.LI, 5, 0, 1, Machine.AND, 5, 5, 1, Machine.JZ, 5, 0, 3, Machine.ADD, 2, 2, 0,
      Machine.JN, 2, 0, 1, Machine.JUMP, 0, 0, 4, Machine.HALF, 1, 1, 0, Machine.JZ, 1, 0, 4,
      Machine.ADD, 0, 0, 0, Machine.JN, 0, 0, -11, Machine.LI, 4, 0, 1, Machine.JUMP, 0, 0, 4,
      Machine.JN, 3, 0, 3, Machine.LI, 5, 0, 0, Machine.SUB, 2, 5, 2, Machine.JN, 2, 0, -6,
      Machine.LOAD, 5, 7, 0, Machine.CALL, 5, 5, 0
    };
    private static final int[] DIVIDE = {
      Machine.JZ, 1, 0, 41, Machine.STORE, 5, 7, 0, Machine.STORE, 0, 7, 1, Machine.XOR, 2, 0, 1,
      Machine.STORE, 2, 7, 2, Machine.LI, 5, 0, 0, Machine.JN, 0, 0, 1, Machine.JUMP, 0, 0, 1,
      Machine.SUB, 0, 5, 0, Machine.JN, 1, 0, 1, Machine.JUMP, 0, 0, 1, Machine.SUB, 1, 5, 1,
      Machine.LI, 2, 0, 0, Machine.LI, 3, 0, 0, Machine.LI, 4, 0, 16, Machine.ADD, 3, 3, 3,
      Machine.ADD, 2, 2, 2, Machine.JN, 0, 0, 1, Machine.JUMP, 0, 0, 1, Machine.ADDI, 3, 3, 1,
      Machine.ADD, 0, 0, 0, Machine.JN, 3, 0, 4, Machine.JN, 1, 0, 5, Machine.LESS, 5, 3, 1,
      Machine.JZ, 5, 0, 1, Machine.JUMP, 0, 0, 2, Machine.SUB, 3, 3, 1, Machine.ADDI, 2, 2, 1,
      Machine.ADDI, 4, 4, -1, Machine.JZ, 4, 0, 1, Machine.JUMP, 0, 0, -16, Machine.LI, 5, 0, 0,
      Machine.LOAD, 0, 7, 2, Machine.JN, 0, 0, 1, Machine.JUMP, 0, 0, 1, Machine.SUB, 2, 5, 2,
      Machine.LOAD, 0, 7, 1, Machine.JN, 0, 0, 1, Machine.JUMP, 0, 0, 1, Machine.SUB, 3, 5, 3,
      Machine.LOAD, 5, 7, 0, Machine.CALL, 5, 5, 0, Machine.LI, 4, 0, 3, Machine.CALL, 5, 5, 0
    };
    // The bits of a word of each op that hold its b or its number.
    private static final int[] LOW_BITS = {56, 56, 56, 56, 56, 0, 511, 255, 63, 63, 63, 511, 511, 0, 4095, 0};
    private static final int MULTIPLY_AT = 8;
    private static final int DIVIDE_AT = 38;
    private static final int RANGE = 1;
    private static final int INDEX = 2;
    private static final int EMPTY = 4;
    private static final int ERROR = 5;

    private final Tops tops;
    private Code code;
    private int at;
    private boolean writing;
    private boolean changed;
    // Of the order whose words are laid: its number, its proc's parameters, how many GO it has so far.
    private int current;
    private int parameters;
    private int goes;
    // Bit g of an order: its GO number g is the longer one.
    private final int[] longer = new int[Code.MOST_ORDERS];

    Layer(Tops tops) {
      this.tops = tops;
    }

    /** Lays all words; false when they are too many. */
    boolean lay(Code draft) {
      code = draft;
      Arrays.fill(longer, 0);
      // A turn for places and one for words; each two but the last make a GO longer, and that is not done twice to one.
      for (int turn = 0; turn < 4 * Code.MOST_ORDERS + 2; turn++) {
        writing = turn % 2 == 1;
        changed = false;
        at = 0;
        layHead();
        layTable(MULTIPLY);
        layTable(DIVIDE);
        for (int i = 0; i < code.orders; i++) {
          code.place[i] = at;
          layOrder(i);
        }
        if (at + tops.globals > Code.MOST_WORDS) return false;
        code.size = at;
        if (writing && !changed) return true;
      }
      return false;
    }

    private void layHead() {
      put(Machine.LI, 4, 0, 0);
      place(7, code.size + tops.globals);
      put(Machine.ADDI, 6, 7, 0);
      library(code.placeOf(code.enterOf(tops.mainNumber())));
      put(Machine.HALT, 0, 0, 0);
    }

    private void layTable(int[] table) {
      for (int i = 0; i + 3 < table.length; i += 4) put(table[i], table[i + 1], table[i + 2], table[i + 3]);
    }

    /** One word; while places are sought, only its room. */
    private void put(int op, int d, int a, int x) {
      if (writing && at >= 0 && at < Code.MOST_WORDS && op >= 0 && op < LOW_BITS.length) {
        int low = op <= Machine.LESS ? x << 3 : x;
        code.words[at] = op << 12 | d << 9 | a << 6 | low & LOW_BITS[op];
      }
      at++;
    }

    private void place(int r, int v) {
      put(Machine.LI, r, 0, v & 255);
      put(Machine.HI, r, 0, v >> 8 & 255);
    }

    private void constant(int r, int v) {
      if (v >= -256 && v <= 255) put(Machine.LI, r, 0, v);
      else place(r, v);
    }

    private void on(int r) {
      put(Machine.STORE, r, 7, 0);
      put(Machine.ADDI, 7, 7, 1);
    }

    private void off(int r) {
      put(Machine.ADDI, 7, 7, -1);
      put(Machine.LOAD, r, 7, 0);
    }

    private void library(int m) {
      place(5, m);
      put(Machine.CALL, 5, 5, 0);
    }

    private boolean nextIsLonger() {
      return (longer[current] >> goes & 1) != 0;
    }

    /** How many words the next GO has. */
    private int goSize() {
      return nextIsLonger() ? 3 : 1;
    }

    /** To the order that the current one is linked with. */
    private void go() {
      int target = code.placeOf(code.link[current]);
      if (nextIsLonger()) {
        put(Machine.LI, 5, 0, target & 255);
        put(Machine.HI, 5, 0, target >> 8 & 255);
        put(Machine.CALL, 5, 5, 0);
      } else {
        int step = target - at - 1;
        // All stay where they are in this turn, so that each GO is judged by the same places.
        if (writing && (step < -2048 || step > 2047)) {
          longer[current] |= 1 << goes;
          changed = true;
        }
        put(Machine.JUMP, 0, 0, step);
      }
      goes++;
    }

    private void skipFail(int condition) {
      put(Machine.JUMP, 0, 0, 1 + goSize());
      put(Machine.LI, 4, 0, condition);
      go();
    }

    /** On to H when the proc or the part of the library that was called has left a condition. */
    private void goIfRaised() {
      put(Machine.JZ, 4, 0, goSize());
      go();
    }

    private void layOrder(int i) {
      if (i < 0 || i >= code.orders) return;
      current = i;
      goes = 0;
      int x = code.operand[i];
      switch (code.number[i]) {
        case Code.ENTER: layEnter(x); break;
        case Code.AT:
          off(0);
          layIndex(x);
          put(Machine.LOAD, 0, 1, 0);
          on(0);
          break;
        case Code.SET:
          off(3);
          off(0);
          layIndex(x);
          put(Machine.STORE, 3, 1, 0);
          break;
        case Code.ADD: layAdd(); break;
        case Code.SUB:
          off(1);
          off(0);
          layLessen();
          break;
        case Code.NEG:
          off(1);
          put(Machine.LI, 0, 0, 0);
          layLessen();
          break;
        case Code.MUL: layMultiply(); break;
        case Code.DIV: layDivide(); break;
        case Code.MOD: layRest(); break;
        case Code.COMPARE: layCompare(x); break;
        case Code.CALL:
          library(code.placeOf(code.enterOf(x)));
          goIfRaised();
          on(0);
          break;
        case Code.IN: layIn(); break;
        case Code.RETURN:
          off(0);
          layBack();
          break;
        case Code.LEAVE: layLeave(x); break;
        default: layPlain(code.number[i], x); break;
      }
    }

    /** The orders of few words. */
    private void layPlain(int number, int x) {
      switch (number) {
        case Code.PUSH:
          constant(0, x);
          on(0);
          break;
        case Code.GET:
          put(Machine.LOAD, 0, 6, inFrame(x));
          on(0);
          break;
        case Code.PUT:
          off(0);
          put(Machine.STORE, 0, 6, inFrame(x));
          break;
        case Code.FETCH:
          placeOfVar(x);
          put(Machine.LOAD, 0, 1, 0);
          on(0);
          break;
        case Code.KEEP:
          off(0);
          placeOfVar(x);
          put(Machine.STORE, 0, 1, 0);
          break;
        case Code.UNLESS:
          off(0);
          put(Machine.JZ, 0, 0, 1);
          put(Machine.JUMP, 0, 0, goSize());
          go();
          break;
        case Code.DROP: put(Machine.ADDI, 7, 7, -1); break;
        case Code.OUT:
          off(0);
          place(1, Machine.PORT);
          put(Machine.STORE, 0, 1, 0);
          break;
        case Code.RAISE:
          put(Machine.LI, 4, 0, x);
          go();
          break;
        case Code.HANDLE: put(Machine.ADDI, 7, 6, code.frameOf(x)); break;
        case Code.WHEN:
          layMatch(x);
          put(Machine.JZ, 0, 0, 1);
          put(Machine.JUMP, 0, 0, 1 + goSize());
          put(Machine.LI, 4, 0, 0);
          go();
          break;
        default: go(); break;
      }
    }

    private int inFrame(int local) {
      return local < parameters ? local : local + 2;
    }

    private void placeOfVar(int v) {
      place(1, code.size + tops.offsetOf(v));
    }

    private void layEnter(int p) {
      parameters = code.parametersOf(p);
      constant(3, Machine.PLACES - code.wantOf(p));
      put(Machine.LESS, 2, 3, 7);
      put(Machine.JZ, 2, 0, 2);
      put(Machine.LI, 4, 0, -1);
      put(Machine.HALT, 0, 0, 0);
      put(Machine.STORE, 5, 7, 0);
      put(Machine.STORE, 6, 7, 1);
      put(Machine.ADDI, 6, 7, -parameters);
      put(Machine.ADDI, 7, 7, code.frameOf(p) - parameters);
    }

    private void layIndex(int v) {
      constant(1, tops.lengthOf(v));
      put(Machine.JN, 0, 0, 3);
      put(Machine.LESS, 2, 0, 1);
      put(Machine.JZ, 2, 0, 1);
      skipFail(INDEX);
      placeOfVar(v);
      put(Machine.ADD, 1, 1, 0);
    }

    private void layAdd() {
      off(1);
      off(0);
      put(Machine.ADD, 2, 0, 1);
      put(Machine.XOR, 3, 0, 2);
      put(Machine.XOR, 1, 1, 2);
      layRange();
    }

    private void layLessen() {
      put(Machine.SUB, 2, 0, 1);
      put(Machine.XOR, 3, 0, 1);
      put(Machine.XOR, 1, 0, 2);
      layRange();
    }

    /** A result in r2 that is no number where r3 and r1 are both below 0. */
    private void layRange() {
      put(Machine.AND, 3, 3, 1);
      put(Machine.JN, 3, 0, 1);
      skipFail(RANGE);
      on(2);
    }

    private void layMultiply() {
      off(1);
      off(0);
      library(MULTIPLY_AT);
      goIfRaised();
      on(2);
    }

    private void layDivide() {
      off(1);
      off(0);
      library(DIVIDE_AT);
      goIfRaised();
      put(Machine.LOAD, 5, 7, 2);
      put(Machine.JN, 5, 0, 1);
      put(Machine.JN, 2, 0, 1);
      skipFail(RANGE);
      on(2);
    }

    private void layRest() {
      off(1);
      off(0);
      library(DIVIDE_AT);
      goIfRaised();
      on(3);
    }

    private void layCompare(int c) {
      off(1);
      off(0);
      if (c == 0 || c == 3) put(Machine.LESS, 2, 0, 1);
      if (c == 1 || c == 2) put(Machine.LESS, 2, 1, 0);
      if (c == 2 || c == 3) {
        put(Machine.LI, 3, 0, 1);
        put(Machine.XOR, 2, 2, 3);
      }
      if (c == 4 || c == 5) {
        put(Machine.XOR, 0, 0, 1);
        put(Machine.LI, 2, 0, c == 4 ? 1 : 0);
        put(Machine.JZ, 0, 0, 1);
        put(Machine.LI, 2, 0, c == 4 ? 0 : 1);
      }
      on(2);
    }

    private void layIn() {
      place(1, Machine.PORT);
      put(Machine.LOAD, 0, 1, 1);
      put(Machine.JZ, 0, 0, 1);
      skipFail(EMPTY);
      put(Machine.LOAD, 0, 1, 0);
      on(0);
    }

    private void layBack() {
      put(Machine.LOAD, 5, 6, parameters);
      put(Machine.LOAD, 3, 6, parameters + 1);
      put(Machine.ADDI, 7, 6, 0);
      put(Machine.ADDI, 6, 3, 0);
      put(Machine.CALL, 5, 5, 0);
    }

    /** r0 becomes 0 when the condition is c. */
    private void layMatch(int c) {
      put(Machine.LI, 0, 0, c);
      put(Machine.XOR, 0, 0, 4);
    }

    private void layLeave(int p) {
      if (p >= 0 && p < tops.procedures) {
        int to = Math.min(tops.raisedFrom[p + 1], tops.raisedNames);
        for (int i = Math.max(tops.raisedFrom[p], 0); i < to; i++) {
          layMatch(tops.numberOf(tops.raised[i]));
          put(Machine.JZ, 0, 0, 3 * (to - i) - 2);
        }
      }
      put(Machine.LI, 4, 0, ERROR);
      layBack();
    }
  }

  /** The processor's flip-flops beside the memory, the INPUT and the OUTPUT, clocked as the net would have it. */
  private static final class Machine {
    static final int ADD = 0;
    static final int SUB = 1;
    static final int AND = 2;
    static final int XOR = 3;
    static final int LESS = 4;
    static final int HALF = 5;
    static final int LI = 6;
    static final int HI = 7;
    static final int LOAD = 8;
    static final int STORE = 9;
    static final int ADDI = 10;
    static final int JZ = 11;
    static final int JN = 12;
    static final int CALL = 13;
    static final int JUMP = 14;
    static final int HALT = 15;

    static final int PLACES = 8192;
    static final int PORT = 65280;
    static final int MOST_INPUTS = 200;
    static final int MOST_OUTPUTS = 500;
    static final int LIFE = 1000000;
    static final int WORD = 65535;

    // All words are held without sign.
    final int[] cells = new int[PLACES];
    final int[] registers = new int[8];
    int pc;
    int ir;
    int mar;
    int mdr;
    int state;
    private final int[] received = new int[MOST_INPUTS];
    private int inputs;
    private int taken;
    final int[] sent = new int[MOST_OUTPUTS];
    int outputs;
    int clocks;
    // The clocks that were done in all, whatever was reset.
    private int spent;

    static int signed(int word) {
      return (short) word;
    }

    private static int signedBits(int word, int bits) {
      return word << 32 - bits >> 32 - bits;
    }

    boolean receive(int v) {
      if (inputs >= MOST_INPUTS) return false;
      received[inputs] = v & WORD;
      inputs++;
      return true;
    }

    void forgetInput() {
      inputs = 0;
      taken = 0;
    }

    int inputsLeft() {
      return inputs - taken;
    }

    void restart(Code code) {
      Arrays.fill(cells, 0);
      System.arraycopy(code.words, 0, cells, 0, Math.max(0, Math.min(code.size, Code.MOST_WORDS)));
      Arrays.fill(registers, 0);
      pc = 0;
      ir = 0;
      mar = 0;
      mdr = 0;
      state = 0;
      taken = 0;
      outputs = 0;
      clocks = 0;
    }

    boolean halted() {
      return state == 1 && ir >> 12 == HALT;
    }

    /** Clocks till it is halted, at most so often: how often. */
    int advance(int most) {
      for (int done = 0; done < most; done++) {
        if (spent >= LIFE || halted()) return done;
        tick();
        spent++;
        clocks++;
      }
      return most;
    }

    private int data() {
      if (mar < PLACES) return cells[mar & PLACES - 1];
      if (mar == PORT) return taken >= 0 && taken < inputs && taken < MOST_INPUTS ? received[taken] : 0;
      return mar == PORT + 1 ? inputsLeft() : 0;
    }

    private void tick() {
      switch (state) {
        case 0:
          ir = data();
          pc = pc + 1 & WORD;
          state = 1;
          break;
        case 1:
          act();
          break;
        case 2:
          registers[ir >> 9 & 7] = data();
          if (mar == PORT && taken < inputs) taken++;
          mar = pc;
          state = 0;
          break;
        default:
          give();
          mar = pc;
          state = 0;
          break;
      }
    }

    private void give() {
      if (mar < PLACES) cells[mar & PLACES - 1] = mdr;
      if (mar != PORT) return;
      if (outputs >= 0 && outputs < MOST_OUTPUTS) sent[outputs] = mdr;
      outputs++;
    }

    /** What IR tells is done. */
    private void act() {
      int op = ir >> 12;
      int d = ir >> 9 & 7;
      int a = registers[ir >> 6 & 7];
      if (op == LOAD || op == STORE) {
        mar = a + signedBits(ir, 6) & WORD;
        state = op == LOAD ? 2 : 3;
        if (op == STORE) mdr = registers[d];
        return;
      }
      if (op < LOAD || op == ADDI) registers[d] = result(op, a, registers[ir >> 3 & 7], registers[d]);
      else if (op == JZ && registers[d] == 0) leap(9);
      else if (op == JN && registers[d] > 32767) leap(9);
      else if (op == JUMP) leap(12);
      else if (op == CALL) {
        registers[d] = pc;
        pc = a;
      }
      mar = pc;
      state = op == HALT ? 1 : 0;
    }

    private void leap(int bits) {
      pc = pc + signedBits(ir, bits) & WORD;
    }

    private int result(int op, int a, int b, int d) {
      switch (op) {
        case ADD: return a + b & WORD;
        case SUB: return a - b & WORD;
        case AND: return a & b;
        case XOR: return a ^ b;
        case LESS: return signed(a) < signed(b) ? 1 : 0;
        case HALF: return a >> 1;
        case LI: return signedBits(ir, 9) & WORD;
        case HI: return (ir & 255) << 8 | d & 255;
        default: return a + signedBits(ir, 6) & WORD;
      }
    }

    /** Writes the wires that are no gates, one number a wire. */
    void show(int[] value) {
      if (value.length < Net.FIRST_GATE) return;
      value[0] = 0;
      value[1] = 1;
      showBits(value, Net.PC, 16, pc);
      showBits(value, Net.IR, 16, ir);
      showBits(value, Net.MAR, 16, mar);
      showBits(value, Net.MDR, 16, mdr);
      showBits(value, Net.STATE, 2, state);
      for (int k = 0; k < 8; k++) showBits(value, Net.REGISTERS + 16 * k, 16, registers[k]);
      showBits(value, Net.DATA, 16, data());
    }

    private static void showBits(int[] value, int first, int bits, int word) {
      for (int i = 0; i < bits && first + i < value.length; i++) value[first + i] = word >> i & 1;
    }
  }

  /** Wires and gates, and the makers that parts of a net are made with. */
  private static final class Net {
    static final int PC = 2;
    static final int IR = 18;
    static final int MAR = 34;
    static final int MDR = 50;
    static final int STATE = 66;
    static final int REGISTERS = 68;
    static final int DATA = 196;
    static final int FIRST_GATE = 212;
    static final int MOST_WIRES = 4104;

    int wires = FIRST_GATE;
    int deepest;
    // Of a gate what it hangs on, of a flip-flop (left alone) what it becomes.
    final int[] left = new int[MOST_WIRES];
    final int[] right = new int[MOST_WIRES];
    private final int[] depth = new int[MOST_WIRES];
    final int[] value = new int[MOST_WIRES];
    // How many wires have their value of now.
    int settled;
    private int carry;

    /** A wire's value; those ahead of the gates must have theirs. */
    int settle(int k) {
      if (k < 0 || k >= wires) return NONE;
      for (; settled <= k; settled++) value[settled] = 1 - (value[left[settled]] & value[right[settled]]);
      return value[k];
    }

    int gate(int x, int y) {
      if (wires >= MOST_WIRES || x < 0 || y < 0 || x >= wires || y >= wires) return 0;
      left[wires] = x;
      right[wires] = y;
      depth[wires] = 1 + Math.max(depth[x], depth[y]);
      deepest = Math.max(deepest, depth[wires]);
      wires++;
      return wires - 1;
    }

    int not(int x) {
      return gate(x, x);
    }

    int and(int x, int y) {
      return not(gate(x, y));
    }

    int or(int x, int y) {
      return gate(not(x), not(y));
    }

    int xor(int x, int y) {
      int m = gate(x, y);
      return gate(gate(x, m), gate(y, m));
    }

    int mux(int s, int x, int y) {
      int n = not(s);
      return gate(gate(x, n), gate(y, s));
    }

    /** The sum; the carry is left for the next one. */
    private int full(int x, int y, int c) {
      int m = gate(x, y);
      int h = gate(gate(x, m), gate(y, m));
      int k = gate(h, c);
      int sum = gate(gate(h, k), gate(c, k));
      carry = gate(m, k);
      return sum;
    }

    int[] sums(int[] x, int[] y, int c) {
      int[] row = new int[16];
      carry = c;
      for (int i = 0; i < 16 && i < x.length && i < y.length; i++) row[i] = full(x[i], y[i], carry);
      return row;
    }

    int[] muxRow(int s, int[] x, int[] y) {
      int[] row = new int[16];
      for (int i = 0; i < 16 && i < x.length && i < y.length; i++) row[i] = mux(s, x[i], y[i]);
      return row;
    }

    void become(int flipFlop, int wire) {
      if (flipFlop >= PC && flipFlop < DATA) left[flipFlop] = wire;
    }

    void becomeRow(int first, int[] row) {
      for (int i = 0; i < row.length; i++) become(first + i, row[i]);
    }
  }

  /** Makes the processor's net, in the document's order. */
  private static final class Wiring {
    private final Net net;
    private int[] a;
    private int[] b;
    private int[] d;
    private final int[] nots = new int[4];
    private final int[] ops = new int[16];
    private int read;
    private int act;
    private int take;
    private int[] sum;
    private int less;
    private int[] result;
    private int[] grown;
    private int[] next;

    Wiring(Net net) {
      this.net = net;
    }

    void build() {
      a = port(Net.IR + 6);
      b = port(Net.IR + 3);
      d = port(Net.IR + 9);
      makeOps();
      makeStates();
      makeSum();
      makeResult();
      makeNext();
      makeFlipFlops();
      makeRegisters();
    }

    private int register(int k, int i) {
      return Net.REGISTERS + 16 * k + i;
    }

    private int[] port(int x) {
      int y = x + 1;
      int z = x + 2;
      int[] row = new int[16];
      for (int i = 0; i < 16; i++) {
        row[i] = net.mux(z,
            net.mux(y, net.mux(x, register(0, i), register(1, i)), net.mux(x, register(2, i), register(3, i))),
            net.mux(y, net.mux(x, register(4, i), register(5, i)), net.mux(x, register(6, i), register(7, i))));
      }
      return row;
    }

    /** Sixteen wires that stand together. */
    private static int[] wiresFrom(int first) {
      int[] row = new int[16];
      for (int i = 0; i < 16; i++) row[i] = first + i;
      return row;
    }

    /** The number in IR whose sign is bit k. */
    private static int[] numberUpTo(int k) {
      int[] row = new int[16];
      for (int i = 0; i < 16; i++) row[i] = Net.IR + Math.min(i, k);
      return row;
    }

    private void makeOps() {
      for (int k = 0; k < 4; k++) nots[k] = net.not(Net.IR + 12 + k);
      for (int j = 0; j < 16; j++) {
        ops[j] = net.and(net.and(opBit(j, 0), opBit(j, 1)), net.and(opBit(j, 2), opBit(j, 3)));
      }
    }

    private int opBit(int j, int k) {
      return (j >> k & 1) == 1 ? Net.IR + 12 + k : nots[k & 3];
    }

    private void makeStates() {
      int low = Net.STATE;
      int high = Net.STATE + 1;
      int notLow = net.not(low);
      int notHigh = net.not(high);
      read = net.and(notLow, notHigh);
      act = net.and(low, notHigh);
      take = net.and(notLow, high);
      // GIVE: the memory beside the net goes by it, no gate does.
      net.and(low, high);
    }

    private void makeSum() {
      int use = net.or(net.or(ops[8], ops[9]), ops[10]);
      int[] y = net.muxRow(use, b, numberUpTo(5));
      int minus = net.or(ops[1], ops[4]);
      int[] x = new int[16];
      for (int i = 0; i < 16; i++) x[i] = net.xor(minus, y[i]);
      sum = net.sums(a, x, minus);
      less = net.mux(net.xor(a[15], y[15]), sum[15], a[15]);
    }

    private void makeResult() {
      int[] both = new int[16];
      int[] unlike = new int[16];
      for (int i = 0; i < 16; i++) both[i] = net.and(a[i], b[i]);
      for (int i = 0; i < 16; i++) unlike[i] = net.xor(a[i], b[i]);
      int[] lessRow = new int[16];
      lessRow[0] = less;
      int[] half = new int[16];
      System.arraycopy(a, 1, half, 0, 15);
      int[] high = new int[16];
      for (int i = 0; i < 8; i++) {
        high[i] = d[i];
        high[i + 8] = Net.IR + i;
      }
      result = net.muxRow(ops[2], sum, both);
      result = net.muxRow(ops[3], result, unlike);
      result = net.muxRow(ops[4], result, lessRow);
      result = net.muxRow(ops[5], result, half);
      result = net.muxRow(ops[6], result, numberUpTo(8));
      result = net.muxRow(ops[7], result, high);
      result = net.muxRow(ops[13], result, wiresFrom(Net.PC));
      result = net.muxRow(take, result, wiresFrom(Net.DATA));
    }

    private void makeNext() {
      grown = net.sums(wiresFrom(Net.PC), new int[16], 1);
      int some = d[0];
      for (int i = 1; i < 16; i++) some = net.or(some, d[i]);
      int zero = net.not(some);
      int jumps = net.or(net.and(ops[11], zero), net.and(ops[12], d[15]));
      int goes = net.or(jumps, ops[14]);
      int[] step = new int[16];
      for (int i = 0; i < 16; i++) {
        step[i] = net.and(goes, net.mux(ops[14], Net.IR + Math.min(i, 8), Net.IR + Math.min(i, 11)));
      }
      next = net.sums(wiresFrom(Net.PC), step, 0);
      next = net.muxRow(ops[13], next, a);
    }

    private void makeFlipFlops() {
      for (int i = 0; i < 16; i++) {
        net.become(Net.PC + i, net.mux(act, net.mux(read, Net.PC + i, grown[i]), next[i]));
      }
      net.becomeRow(Net.IR, net.muxRow(read, wiresFrom(Net.IR), wiresFrom(Net.DATA)));
      int mem = net.or(ops[8], ops[9]);
      for (int i = 0; i < 16; i++) {
        int moved = net.mux(act, Net.PC + i, net.mux(mem, next[i], sum[i]));
        net.become(Net.MAR + i, net.mux(read, moved, Net.MAR + i));
      }
      int hold = net.and(act, ops[9]);
      net.becomeRow(Net.MDR, net.muxRow(hold, wiresFrom(Net.MDR), d));
      net.become(Net.STATE, net.or(read, net.and(act, net.or(ops[9], ops[15]))));
      net.become(Net.STATE + 1, net.and(act, mem));
    }

    private void makeRegisters() {
      int sets = net.or(take, net.and(act, net.or(net.or(nots[3], ops[10]), ops[13])));
      int[] inverse = new int[3];
      for (int i = 0; i < 3; i++) inverse[i] = net.not(Net.IR + 9 + i);
      for (int k = 0; k < 8; k++) {
        int y0 = (k & 1) != 0 ? Net.IR + 9 : inverse[0];
        int y1 = (k & 2) != 0 ? Net.IR + 10 : inverse[1];
        int y2 = (k & 4) != 0 ? Net.IR + 11 : inverse[2];
        int enable = net.and(sets, net.and(net.and(y0, y1), y2));
        int first = Net.REGISTERS + 16 * k;
        net.becomeRow(first, net.muxRow(enable, wiresFrom(first), result));
      }
    }
  }
}
