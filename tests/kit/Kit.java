import java.io.IOException;
import java.nio.file.Files;
import java.nio.file.Path;
import java.util.ArrayList;
import java.util.HashMap;
import java.util.LinkedHashMap;
import java.util.List;
import java.util.Map;

/** What the tests share: checks, values told as texts, states to begin with, and all that can be seen of a state. */
abstract class Kit {
  static final Class<? extends RuntimeException> ARGUMENT = IllegalArgumentException.class;
  static final Class<? extends RuntimeException> STATE = IllegalStateException.class;
  static final Class<? extends RuntimeException> BOUNDS = IndexOutOfBoundsException.class;
  static final int[] FAR = {Integer.MIN_VALUE, Integer.MAX_VALUE};

  static final int SET = 0;
  static final int UNSET = 1;
  static final int ADD = 2;
  static final int PUSH = 3;
  static final int PULL = 4;
  static final int EACH = 5;

  private static final Path DOCUMENT = Path.of("../shared/DOC.md");

  private static int wrong = 0;
  private static int checks = 0;

  /** The section of the document that is tested now, the sentence, and how many checks each sentence has had. */
  private static String section = "";
  private static String sentence = "";
  private static final Map<String, Map<String, Integer>> TESTED = new LinkedHashMap<>();
  private static final Map<Maker, String> SEEN = new HashMap<>();

  interface Call {
    long on(Shardmoor x);
  }

  interface NumberCall {
    long on(Shardmoor x, int number);
  }

  interface Maker {
    Shardmoor make();
  }

  // ---- checks

  private static void count(boolean isRight, String what, Object got, Object want) {
    checks++;
    if (!sentence.isEmpty()) {
      TESTED.get(section).merge(sentence, 1, Integer::sum);
    }
    if (!isRight) {
      wrong++;
      String where = section.isEmpty() ? "" : section + " (" + sentence + "): ";
      System.out.println(where + what + " answered " + got + ", due is " + want);
    }
  }

  static void due(String what, long got, long want) {
    count(got == want, what, got, want);
  }

  static void due(String what, boolean got, boolean want) {
    count(got == want, what, got, want);
  }

  static void dueText(String what, String got, String want) {
    count(got.equals(want), what, got, want);
  }

  static Object answer(Shardmoor x, Call call) {
    try {
      return call.on(x);
    } catch (RuntimeException e) {
      return e.getClass();
    }
  }

  static void throwsBy(String what, Shardmoor x, Class<? extends RuntimeException> kind, Call call) {
    Object got = answer(x, call);
    count(got == kind, what, got, kind);
  }

  /** A call on such a state throws, and all is as before. */
  static void refuses(String what, Class<? extends RuntimeException> kind, Maker state, Call call) {
    throwsBy(what, state.make(), kind, call);
    String before = SEEN.computeIfAbsent(state, made -> seen(made, y -> 0));
    dueText("what is seen after " + what, seen(state, call), before);
  }

  /** The same on a state with something of everything. */
  static void refuses(String what, Class<? extends RuntimeException> kind, Call call) {
    refuses(what, kind, RICH, call);
  }

  /** A number from low to high is an argument of a call; on each of the states others are refused. */
  static void range(int low, int high, Class<? extends RuntimeException> kind, NumberCall call, Maker... states) {
    for (Maker state : states) {
      for (int number : new int[] {low, low + (high - low) / 2, high}) {
        due(number + " is refused by " + kind, answer(state.make(), x -> call.on(x, number)) == kind, false);
      }
      for (int number : new int[] {low - 1, high + 1, FAR[0], FAR[1]}) {
        refuses("the call with " + number, kind, state, x -> call.on(x, number));
      }
    }
  }

  // ---- sentences

  /** What is checked from here on is what this sentence of the document says, or the part of one. */
  static void says(String words) {
    sentence = words;
    TESTED.get(section).putIfAbsent(words, 0);
  }

  static void section(String title) {
    section = title;
    sentence = "";
    TESTED.putIfAbsent(title, new LinkedHashMap<>());
  }

  /** A sentence that promises nothing that a call could show by itself. */
  static void saysNoMore(String words) {
    says(words);
    count(true, "", "", "");
  }

  static void end() {
    section = "";
    sentence = "";
    compareWithDocument();
    System.out.println(wrong == 0 ? checks + " answers are as due" : wrong + " answers are not as due");
    if (wrong != 0) {
      System.exit(1);
    }
  }

  /** Each clause of the sections that are tested has a check, and each sentence that is tested is in its section. */
  private static void compareWithDocument() {
    if (!Files.isReadable(DOCUMENT) || TESTED.isEmpty()) {
      return;
    }
    Map<String, String> sections = sectionsOfDocument();
    for (Map.Entry<String, Map<String, Integer>> tested : TESTED.entrySet()) {
      String text = sections.getOrDefault(tested.getKey(), "");
      for (Map.Entry<String, Integer> words : tested.getValue().entrySet()) {
        due(tested.getKey() + " says \"" + words.getKey() + "\"", text.contains(words.getKey()), true);
        due("there is a check of \"" + words.getKey() + "\"", words.getValue() > 0, true);
      }
      for (String clause : clauses(text)) {
        boolean isTested = false;
        for (String words : tested.getValue().keySet()) {
          isTested |= words.contains(clause) || clause.contains(words);
        }
        due(tested.getKey() + ": a test of \"" + clause + "\"", isTested, true);
      }
    }
  }

  private static Map<String, String> sectionsOfDocument() {
    Map<String, String> sections = new LinkedHashMap<>();
    String title = "";
    try {
      for (String line : Files.readAllLines(DOCUMENT)) {
        if (line.startsWith("#")) {
          title = titleOf(line);
        } else if (!line.startsWith("```")) {
          sections.merge(title, line.replace("`", "").replaceAll("\\s+", " ").trim() + "\n", String::concat);
        }
      }
    } catch (IOException e) {
      throw new IllegalStateException(e);
    }
    return sections;
  }

  private static String titleOf(String line) {
    String title = line.replaceAll("^#+ ", "");
    return title.startsWith("Promise") ? title.replaceAll(":.*", "") : title;
  }

  /** The parts of a section between stops of any kind, without the heads of the calls. */
  private static List<String> clauses(String text) {
    List<String> clauses = new ArrayList<>();
    for (String line : text.split("\n")) {
      String told = line.replaceAll("^[\\w ]*\\([\\w, ]*\\)(?: throws [\\w, ]+)?: ", "");
      for (String clause : told.split("[.;:] |[.;:]$")) {
        if (!clause.trim().isEmpty()) {
          clauses.add(clause.trim());
        }
      }
    }
    return clauses;
  }

  // ---- values as texts: _ nothing, 5 a number, w5 a word, [1,2] a row, {0:1,3:[]} an object

  static void tell(Shardmoor x, String text) {
    int end = tellAt(x, text, 0);
    if (end != text.length()) {
      throw new IllegalStateException("the test's value is wrong: " + text);
    }
  }

  private static int tellAt(Shardmoor x, String text, int at) {
    char c = text.charAt(at);
    if (c == '_') {
      x.nothing();
      return at + 1;
    }
    if (c == '[' || c == '{') {
      if (c == '[') {
        x.row();
      } else {
        x.object();
      }
      int i = at + 1;
      while (text.charAt(i) != ']' && text.charAt(i) != '}') {
        if (c == '[') {
          i = tellAt(x, text, i);
          x.add();
        } else {
          int field = text.charAt(i) - '0';
          i = tellAt(x, text, i + 2);
          x.give(field);
        }
        i += text.charAt(i) == ',' ? 1 : 0;
      }
      return i + 1;
    }
    int end = endOfNumber(text, at);
    if (c == 'w') {
      x.word(Integer.parseInt(text.substring(at + 1, end)));
    } else {
      x.number(Integer.parseInt(text.substring(at, end)));
    }
    return end;
  }

  private static int endOfNumber(String text, int at) {
    int end = at + 1;
    while (end < text.length() && Character.isDigit(text.charAt(end))) {
      end++;
    }
    return end;
  }

  /** The numbers that make the print of a value, in order. */
  private static int printAt(String text, int at, List<Integer> out) {
    char c = text.charAt(at);
    if (c == '_') {
      out.add(1);
      return at + 1;
    }
    if (c == '[' || c == '{') {
      out.add(c == '[' ? 4 : 5);
      int place = out.size();
      out.add(0);
      int many = 0;
      int i = at + 1;
      while (text.charAt(i) != ']' && text.charAt(i) != '}') {
        many++;
        if (c == '{') {
          out.add(text.charAt(i) - '0');
          i += 2;
        }
        i = printAt(text, i, out);
        i += text.charAt(i) == ',' ? 1 : 0;
      }
      out.set(place, many);
      return i + 1;
    }
    int end = endOfNumber(text, at);
    out.add(c == 'w' ? 3 : 2);
    out.add(Integer.parseInt(text.substring(c == 'w' ? at + 1 : at, end)));
    return end;
  }

  static long printOf(String text) {
    List<Integer> numbers = new ArrayList<>();
    printAt(text, 0, numbers);
    long print = 7;
    for (int number : numbers) {
      print = 31 * print + number;
    }
    return print;
  }

  /** A row of the numbers from one to another, with this behind them. */
  static String row(int from, int to, String behind) {
    StringBuilder row = new StringBuilder("[");
    for (int i = from; i <= to; i++) {
      row.append(i > from ? "," : "").append(i);
    }
    return row.append(behind).append("]").toString();
  }

  // ---- calls with values

  /** What an update makes of a document, and whether it is another one by that. */
  static void updates(String before, int path, int operator, String value, String after) {
    Shardmoor x = with(before);
    String what = before + " at " + path + " by " + operator + " with " + value;
    due(what, update(x, 0, path, operator, value), before.equals(after) ? 0 : 1);
    due("print of " + what, x.print(0), printOf(after));
    due("pile after " + what, x.drop(), operator == 1 && !value.isEmpty() ? 1 : 0);
    due("entry of " + what, x.next(1), before.equals(after) ? -1 : 2);
  }

  static void refusesUpdate(String before, int path, int operator, String value) {
    Maker state = () -> {
      Shardmoor x = with(before);
      x.row();
      if (!value.isEmpty()) {
        tell(x, value);
      } else {
        x.drop();
      }
      return x;
    };
    refuses(before + " at " + path + " by " + operator + " with " + value, STATE, state,
        x -> x.update(0, 0, path, operator) ? 1 : 0);
  }

  static int insert(Shardmoor x, int number, String document) {
    tell(x, document);
    return x.insert(0, number);
  }

  /** Updates by the router 0; 1 if the document is another one by that. */
  static int update(Shardmoor x, int number, int path, int operator, String value) {
    if (!value.isEmpty()) {
      tell(x, value);
    }
    return x.update(0, number, path, operator) ? 1 : 0;
  }

  static void filter(Shardmoor x, int path, int relation, String value) {
    tell(x, value);
    x.filter(path, relation);
  }

  /** The documents 0, 1 and so on. */
  static Shardmoor with(String... documents) {
    Shardmoor x = new Shardmoor();
    for (int i = 0; i < documents.length; i++) {
      insert(x, i, documents[i]);
    }
    return x;
  }

  /** What is found, as a text like "0 2". */
  static String foundBy(Shardmoor x) {
    int many = x.find(0);
    due("findAnew", x.findAnew(), many);
    StringBuilder found = new StringBuilder();
    for (int i = 0; i < many; i++) {
      found.append(i > 0 ? " " : "").append(x.found(i));
    }
    return found.toString();
  }

  /** Which documents of these a single filter finds. */
  static String fitting(int path, int relation, String value, String... documents) {
    Shardmoor x = with(documents);
    filter(x, path, relation, value);
    return foundBy(x);
  }

  static void duePlan(String what, Shardmoor x, int... answers) {
    for (int i = 0; i < answers.length; i++) {
      due(what + ": plan(" + i + ")", x.plan(i), answers[i]);
    }
  }

  static void dueGroup(Shardmoor x, int place, String value, long times, long sum) {
    due("value of group " + place, x.grouped(place, 0), printOf(value));
    due("times of group " + place, x.grouped(place, 1), times);
    due("sum of group " + place, x.grouped(place, 2), sum);
  }

  /** Of each shard in turn: how many documents, orphans and copies. */
  static void dueShards(String what, Shardmoor x, int... answers) {
    for (int i = 0; i < answers.length; i++) {
      due(what + ": shard(" + i / 3 + ", " + i % 3 + ")", x.shard(i / 3, i % 3), answers[i]);
    }
  }

  /** Of an entry of the stream: what, the document, the shard. */
  static void dueChange(String what, Shardmoor x, int time, int... answers) {
    for (int i = 0; i < answers.length; i++) {
      due(what + ": change(" + time + ", " + i + ")", x.change(time, i), answers[i]);
    }
  }

  // ---- states to begin with

  static final Maker FRESH = Shardmoor::new;
  static final Maker RICH = Kit::rich;
  static final Maker FULL = Kit::full;
  static final Maker[] ALL = {FRESH, RICH, FULL};

  /** Something of everything, and a chunk that moves. */
  static Shardmoor rich() {
    Shardmoor x = new Shardmoor();
    insert(x, 3, "{0:50,1:[1,2],2:{1:4,2:w3}}");
    insert(x, 4, "{0:150,1:[1],2:{1:4},7:_}");
    insert(x, 5, "{0:400,1:[990,w1],3:w5}");
    insert(x, 6, "{0:900,1:[],3:9}");
    insert(x, 7, "{0:120,1:[{0:1},{0:1,1:[2]}]}");
    x.rule(1, 3);
    x.index(1, true);
    x.index(25, false);
    filter(x, 1, 0, "1");
    filter(x, 1, 3, "_");
    x.find(1);
    x.group(1, 0);
    x.split(0, 100);
    x.move(1, 2);
    x.copy(1);
    x.expire(7);
    x.tick(3);
    tell(x, "[5]");
    tell(x, "{4:1,1:[]}");
    return x;
  }

  /** As many as there may be of each: 60 documents, 12 chunks, 3 indexes, 3 filters, 10 values on the pile. */
  static Shardmoor full() {
    Shardmoor x = new Shardmoor();
    insert(x, 0, "{0:5,1:[3,3,w1],2:{0:1}}");
    insert(x, 99, "{0:999,1:[990],2:{0:1}}");
    insert(x, 98, "{0:3,1:[" + row(1, 18, "") + "],2:{}}");
    for (int number = 1; number <= 57; number++) {
      x.object();
      x.insert(0, number);
    }
    for (int i = 0; i < 9; i++) {
      x.split(i, i + 1);
    }
    x.move(5, 1);
    x.copy(1);
    x.handOver();
    x.index(1, false);
    x.index(16, true);
    x.index(0, true);
    filter(x, 1, 2, "1");
    filter(x, 0, 2, "4");
    filter(x, 24, 3, "_");
    x.find(0);
    x.group(1, 0);
    for (int i = 0; i < 8; i++) {
      x.number(i);
    }
    tell(x, "[]");
    x.nothing();
    return x;
  }

  /** The documents 40 to 99, the one with the greatest number with the lowest key. */
  static Shardmoor sixty() {
    Shardmoor x = new Shardmoor();
    for (int i = 0; i < 60; i++) {
      x.object();
      x.number(16 * i + 30);
      x.give(0);
      x.insert(0, 99 - i);
    }
    return x;
  }

  static Shardmoor fullPile() {
    Shardmoor x = new Shardmoor();
    for (int i = 0; i < 10; i++) {
      x.row();
    }
    return x;
  }

  // ---- all that can be seen of a state after a call

  static String seen(Maker state, Call call) {
    StringBuilder all = new StringBuilder();
    tellAll(all, state, call, documentsSeen());
    tellAll(all, state, call, countsSeen());
    tellAll(all, state, call, restSeen());
    return all.toString();
  }

  /** As there are at most 512 calls on an object, what is seen is asked of several. */
  private static void tellAll(StringBuilder all, Maker state, Call call, List<Call> calls) {
    Shardmoor x = state.make();
    answer(x, call);
    for (Call one : calls) {
      all.append(answer(x, one)).append(' ');
    }
  }

  private static List<Call> documentsSeen() {
    List<Call> calls = new ArrayList<>();
    for (int n = 0; n < 100; n++) {
      int number = n;
      calls.add(x -> x.print(number));
      calls.add(x -> x.document(number, 0));
    }
    return calls;
  }

  private static List<Call> countsSeen() {
    List<Call> calls = new ArrayList<>();
    for (int i = 0; i < 4; i++) {
      int place = i;
      calls.add(x -> x.entries(place));
      calls.add(x -> x.entriesAnew(place));
      calls.add(x -> x.found(place));
      for (int w = 0; w < 3; w++) {
        int what = w;
        calls.add(x -> x.grouped(place, what));
        calls.add(x -> x.shard(place, what));
        calls.add(x -> x.router(place, what));
      }
    }
    for (int c = 0; c < 13; c++) {
      int place = c;
      calls.add(x -> x.plan(place));
      for (int w = 0; w < 4; w++) {
        int what = w;
        calls.add(x -> x.chunk(place, what));
      }
    }
    for (int t : new int[] {1, 2, 3, 4, 5, 6, 7, 8, 60, 61, 62}) {
      calls.add(x -> x.next(t - 1));
      calls.add(x -> x.change(t, 0));
      calls.add(x -> x.change(t, 1));
      calls.add(x -> x.change(t, 2));
    }
    calls.add(x -> x.documents());
    calls.add(x -> x.findAnew());
    calls.add(x -> x.now());
    return calls;
  }

  /** What can be seen only by calls that change it. */
  private static List<Call> restSeen() {
    List<Call> calls = new ArrayList<>();
    for (int i = 0; i < 2; i++) {
      calls.add(x -> x.find(0));
      for (int what = 0; what < 5; what++) {
        int asked = what;
        calls.add(x -> x.plan(asked));
      }
      calls.add(x -> x.clear());
    }
    for (int f = 0; f < 8; f++) {
      int field = f;
      calls.add(x -> x.rule(field, 0));
    }
    calls.add(x -> x.remove(0, 57));
    calls.add(x -> x.expire(-1));
    for (int f = 0; f < 8; f++) {
      int field = f;
      calls.add(x -> x.update(0, 4, field, 1) ? 1 : 0);
    }
    for (int i = 0; i < 10; i++) {
      int number = 80 + i;
      calls.add(x -> x.insert(0, number));
      calls.add(x -> x.print(number));
      calls.add(x -> x.update(0, 4, 3, 0) ? 1 : 0);
      calls.add(x -> x.print(4));
    }
    calls.add(x -> x.drop());
    calls.add(x -> x.copy(1));
    calls.add(x -> x.handOver());
    calls.add(x -> x.giveUp());
    return calls;
  }
}
