import java.util.ArrayList;
import java.util.List;

/** Each promise of ../shared/DOC.md, by its number: ordinary inputs, edges, and wrong inputs. */
public final class PromiseTest {
  private static final Class<? extends RuntimeException> ARGUMENT = IllegalArgumentException.class;
  private static final Class<? extends RuntimeException> STATE = IllegalStateException.class;
  private static final Class<? extends RuntimeException> BOUNDS = IndexOutOfBoundsException.class;
  private static final int[] FAR = {Integer.MIN_VALUE, Integer.MAX_VALUE};

  private static int wrong = 0;
  private static int checks = 0;

  interface Call {
    long on(Shardmoor x);
  }

  static void due(String what, long got, long want) {
    checks++;
    if (got != want) {
      wrong++;
      System.out.println(what + " answered " + got + ", due is " + want);
    }
  }

  static Object answer(Shardmoor x, Call call) {
    try {
      return call.on(x);
    } catch (RuntimeException e) {
      return e.getClass();
    }
  }

  static void throwsBy(String what, Shardmoor x, Class<? extends RuntimeException> kind, Call call) {
    checks++;
    Object got = answer(x, call);
    if (got != kind) {
      wrong++;
      System.out.println(what + " answered " + got + ", due is " + kind);
    }
  }

  // ---- values as texts: _ nothing, 5 a number, w5 a word, [1,2] a row, {0:1,3:[]} an object

  static void tell(Shardmoor x, String text) {
    int end = tellAt(x, text, 0);
    if (end != text.length()) {
      throw new IllegalStateException("the test's value is wrong: " + text);
    }
  }

  private static int tellAt(Shardmoor x, String text, int at) {
    char c = text.charAt(at);
    if (c == '_') {
      x.nothing();
      return at + 1;
    }
    if (c == '[' || c == '{') {
      if (c == '[') {
        x.row();
      } else {
        x.object();
      }
      int i = at + 1;
      while (text.charAt(i) != ']' && text.charAt(i) != '}') {
        if (c == '[') {
          i = tellAt(x, text, i);
          x.add();
        } else {
          int field = text.charAt(i) - '0';
          i = tellAt(x, text, i + 2);
          x.give(field);
        }
        i += text.charAt(i) == ',' ? 1 : 0;
      }
      return i + 1;
    }
    int i = c == 'w' ? at + 1 : at;
    int end = i + 1;
    while (end < text.length() && Character.isDigit(text.charAt(end))) {
      end++;
    }
    int number = Integer.parseInt(text.substring(i, end));
    if (c == 'w') {
      x.word(number);
    } else {
      x.number(number);
    }
    return end;
  }

  /** The numbers that make the print of a value, in order. */
  private static int printAt(String text, int at, List<Integer> out) {
    char c = text.charAt(at);
    if (c == '_') {
      out.add(1);
      return at + 1;
    }
    if (c == '[' || c == '{') {
      out.add(c == '[' ? 4 : 5);
      int place = out.size();
      out.add(0);
      int many = 0;
      int i = at + 1;
      while (text.charAt(i) != ']' && text.charAt(i) != '}') {
        many++;
        if (c == '{') {
          out.add(text.charAt(i) - '0');
          i += 2;
        }
        i = printAt(text, i, out);
        i += text.charAt(i) == ',' ? 1 : 0;
      }
      out.set(place, many);
      return i + 1;
    }
    int i = c == 'w' ? at + 1 : at;
    int end = i + 1;
    while (end < text.length() && Character.isDigit(text.charAt(end))) {
      end++;
    }
    out.add(c == 'w' ? 3 : 2);
    out.add(Integer.parseInt(text.substring(i, end)));
    return end;
  }

  static long printOf(String text) {
    List<Integer> numbers = new ArrayList<>();
    printAt(text, 0, numbers);
    long print = 7;
    for (int number : numbers) {
      print = 31 * print + number;
    }
    return print;
  }

  static int insert(Shardmoor x, int number, String document) {
    tell(x, document);
    return x.insert(0, number);
  }

  static Shardmoor with(String... documents) {
    Shardmoor x = new Shardmoor();
    for (int i = 0; i < documents.length; i++) {
      insert(x, i, documents[i]);
    }
    return x;
  }

  static void filter(Shardmoor x, int path, int relation, String value) {
    tell(x, value);
    x.filter(path, relation);
  }

  /** Which documents of these a single filter finds, as a text like "0 2". */
  static String fitting(int path, int relation, String value, String... documents) {
    Shardmoor x = with(documents);
    filter(x, path, relation, value);
    int many = x.find(0);
    due("findAnew", x.findAnew(), many);
    StringBuilder found = new StringBuilder();
    for (int i = 0; i < many; i++) {
      found.append(i > 0 ? " " : "").append(x.found(i));
    }
    return found.toString();
  }

  static void dueText(String what, String got, String want) {
    checks++;
    if (!got.equals(want)) {
      wrong++;
      System.out.println(what + " answered " + got + ", due is " + want);
    }
  }

  // ---- a state with something of everything, and all that can be seen of it

  static Shardmoor rich() {
    Shardmoor x = new Shardmoor();
    insert(x, 3, "{0:50,1:[1,2],2:{1:4,2:w3}}");
    insert(x, 4, "{0:150,1:[1],2:{1:4},7:_}");
    insert(x, 5, "{0:400,1:[990,w1],3:w5}");
    insert(x, 6, "{0:900,1:[],3:9}");
    insert(x, 7, "{0:120,1:[{0:1},{0:1,1:[2]}]}");
    x.rule(1, 3);
    x.index(1, true);
    x.index(17 + 8, false);
    filter(x, 1, 0, "1");
    filter(x, 1, 3, "_");
    x.find(1);
    x.group(1, 0);
    x.split(0, 100);
    x.move(1, 2);
    x.copy(1);
    x.expire(7);
    x.tick(3);
    tell(x, "[5]");
    tell(x, "{4:1,1:[]}");
    return x;
  }

  static String seen(Shardmoor x) {
    List<Call> calls = new ArrayList<>();
    calls.add(y -> y.documents());
    for (int n = 2; n <= 8; n++) {
      int number = n;
      calls.add(y -> y.document(number, 0));
      calls.add(y -> y.document(number, 1));
      calls.add(y -> y.print(number));
    }
    for (int i = 0; i < 3; i++) {
      int place = i;
      calls.add(y -> y.entries(place));
      calls.add(y -> y.entriesAnew(place));
      calls.add(y -> y.found(place));
      for (int w = 0; w < 3; w++) {
        int what = w;
        calls.add(y -> y.grouped(place, what));
        calls.add(y -> y.shard(place, what));
        calls.add(y -> y.router(place, what));
      }
    }
    for (int c = 0; c < 5; c++) {
      int place = c;
      calls.add(y -> y.plan(place));
      for (int w = 0; w < 4; w++) {
        int what = w;
        calls.add(y -> y.chunk(place, what));
      }
    }
    for (int t = 1; t < 9; t++) {
      int time = t;
      calls.add(y -> y.next(time - 1));
      calls.add(y -> y.change(time, 0));
      calls.add(y -> y.change(time, 1));
    }
    calls.add(y -> y.findAnew());
    calls.add(y -> y.now());
    calls.add(y -> y.copy(1));
    calls.add(y -> y.expire(-1));
    calls.add(y -> y.clear());
    for (int f = 0; f < 8; f++) {
      int field = f;
      calls.add(y -> y.rule(field, 0));
    }
    calls.add(y -> y.insert(0, 98));
    calls.add(y -> y.print(98));
    calls.add(y -> y.drop());
    StringBuilder all = new StringBuilder();
    for (Call call : calls) {
      all.append(answer(x, call)).append(' ');
    }
    return all.toString();
  }

  private static final String UNTOUCHED = seen(rich());

  /** A call on the rich state throws, and all is as before. */
  static void refuses(String what, Class<? extends RuntimeException> kind, Call call) {
    Shardmoor x = rich();
    throwsBy(what, x, kind, call);
    dueText("what is seen after " + what, seen(x), UNTOUCHED);
  }

  static Shardmoor fullPile() {
    Shardmoor x = new Shardmoor();
    for (int i = 0; i < 10; i++) {
      x.row();
    }
    return x;
  }

  static void promise1() {
    Shardmoor x = new Shardmoor();
    due("documents", x.documents(), 0);
    due("now", x.now(), 0);
    due("next", x.next(0), -1);
    throwsBy("entries", x, BOUNDS, y -> y.entries(0));
    for (int field = 0; field < 8; field++) {
      due("rule", x.rule(field, 0), 0);
    }
    due("drop", x.drop(), 0);
    due("clear", x.clear(), 0);
    due("expire", x.expire(-1), -1);
    for (int shard = 0; shard < 3; shard++) {
      due("first key", x.chunk(shard, 0), shard == 0 ? 0 : shard == 1 ? 334 : 667);
      due("chunk's shard", x.chunk(shard, 1), shard);
      for (int what = 0; what < 3; what++) {
        due("shard", x.shard(shard, what), 0);
      }
    }
    throwsBy("chunk 3", x, BOUNDS, y -> y.chunk(3, 0));
    insert(x, 0, "{0:7,1:8}");
    due("the key is field 0, not hashed", x.document(0, 1), 7);
  }

  static void promises2To6() {
    Shardmoor x = new Shardmoor();
    due("nothing", x.nothing(), 1);
    due("number", x.number(-999), 2);
    due("number", x.number(999), 3);
    due("word", x.word(0), 4);
    due("word", x.word(99), 5);
    due("row", x.row(), 6);
    due("object", x.object(), 7);
    due("drop", x.drop(), 7);
    throwsBy("nothing", fullPile(), STATE, y -> y.nothing());
    throwsBy("number", fullPile(), STATE, y -> y.number(1));
    throwsBy("number", fullPile(), ARGUMENT, y -> y.number(1000));
    throwsBy("word", fullPile(), STATE, y -> y.word(1));
    throwsBy("word", fullPile(), ARGUMENT, y -> y.word(100));
    throwsBy("row", fullPile(), STATE, y -> y.row());
    throwsBy("object", fullPile(), STATE, y -> y.object());
    for (int number : new int[] {-1000, 1000, FAR[0], FAR[1]}) {
      refuses("number", ARGUMENT, y -> y.number(number));
    }
    for (int word : new int[] {-1, 100, FAR[0], FAR[1]}) {
      refuses("word", ARGUMENT, y -> y.word(word));
    }
    Shardmoor full = fullPile();
    throwsBy("nothing", full, STATE, y -> y.nothing());
    due("the pile is as before", full.drop(), 10);
    for (String value : new String[] {"_", "-999", "0", "999", "w0", "w99", "[]", "{}"}) {
      Shardmoor y = with("{5:" + value + "}");
      due("print with " + value, y.print(0), printOf("{5:" + value + "}"));
    }
  }

  static void promise7() {
    Shardmoor x = new Shardmoor();
    x.row();
    x.number(3);
    due("add", x.add(), 1);
    tell(x, "[w1,[_]]");
    due("add", x.add(), 1);
    tell(x, "{1:[3,[w1,[_]]]}");
    x.insert(0, 7);
    due("what was put together", x.print(7), printOf("{1:[3,[w1,[_]]]}"));
    throwsBy("one value", with(), STATE, y -> {
      y.row();
      return y.add();
    });
    throwsBy("no value", with(), STATE, y -> y.add());
    Shardmoor full = new Shardmoor();
    full.row();
    for (int i = 0; i < 23; i++) {
      full.number(i);
      due("add", full.add(), 1);
    }
    full.number(9);
    throwsBy("a 25th part", full, STATE, y -> y.add());
    due("both are there", full.drop(), 2);
    full.row();
    for (int i = 0; i < 21; i++) {
      full.number(i);
      full.add();
    }
    tell(full, "[1,2]");
    throwsBy("25 parts in all", full, STATE, y -> y.add());
    full.drop();
    for (String lower : new String[] {"_", "1", "w1", "{}"}) {
      tell(full, lower);
      full.number(1);
      throwsBy("to " + lower, full, STATE, y -> y.add());
      due("both are there", full.drop(), 2);
    }
  }

  static void promise8() {
    Shardmoor x = new Shardmoor();
    x.object();
    x.number(1);
    due("give", x.give(7), 1);
    x.number(2);
    due("give", x.give(0), 1);
    tell(x, "[3,4]");
    due("give in place", x.give(7), 1);
    x.insert(0, 1);
    due("print", x.print(1), printOf("{0:2,7:[3,4]}"));
    for (int field : new int[] {-1, 8, FAR[0], FAR[1]}) {
      refuses("give", ARGUMENT, y -> y.give(field));
    }
    refuses("give to a row", STATE, y -> y.give(0));
    throwsBy("one value", with(), STATE, y -> {
      y.object();
      return y.give(0);
    });
    throwsBy("no value", with(), ARGUMENT, y -> y.give(8));
    tell(x, "{0:[1,2,3,4,5,6,7,8,9,10],1:[1,2,3,4,5,6,7,8,9,10]}");
    x.number(1);
    due("24 parts", x.give(2), 1);
    x.number(1);
    throwsBy("25 parts", x, STATE, y -> y.give(3));
    due("the same parts again", x.give(2), 1);
    tell(x, "[1]");
    throwsBy("one part more", x, STATE, y -> y.give(2));
    x.drop();
    tell(x, "{0:[1,2,3,4,5,6,7,8,9,10],1:[1,2,3,4,5,6,7,8,9,10]}");
    tell(x, "[1,2,3,4,5,6,7,8,9,10,11]");
    due("in place of 11 parts 12", x.give(1), 1);
    due("24 parts can be told", x.insert(0, 2), 0);
    due("parts", x.document(2, 2), 24);
  }

  static void promise9() {
    Shardmoor x = fullPile();
    due("drop", x.drop(), 10);
    due("drop", x.drop(), 0);
    due("row", x.row(), 1);
    due("drop", x.drop(), 1);
  }

  static void promise10() {
    Shardmoor x = new Shardmoor();
    due("shard", insert(x, 0, "{}"), 0);
    due("shard", insert(x, 99, "{0:334}"), 1);
    due("shard", insert(x, 98, "{0:667}"), 2);
    due("the value is taken", x.drop(), 0);
    due("documents", x.documents(), 3);
    tell(x, "{}");
    throwsBy("again", x, STATE, y -> y.insert(0, 99));
    due("the value stays", x.drop(), 1);
    tell(x, "[]");
    throwsBy("a row", x, STATE, y -> y.insert(0, 1));
    x.drop();
    throwsBy("an empty pile", x, STATE, y -> y.insert(1, 1));
    for (int n : new int[] {-1, 100, FAR[0], FAR[1]}) {
      refuses("number", ARGUMENT, y -> y.insert(0, n));
    }
    for (int r : new int[] {-1, 2, FAR[0], FAR[1]}) {
      refuses("router", ARGUMENT, y -> y.insert(r, 0));
    }
    refuses("such a document", STATE, y -> y.insert(0, 3));
    for (int i = 3; i < 60; i++) {
      insert(x, i, "{}");
    }
    due("documents", x.documents(), 60);
    x.object();
    throwsBy("a 61st", x, STATE, y -> y.insert(0, 60));
    x.remove(0, 5);
    due("in place of the one that went", x.insert(0, 60), 0);
    Shardmoor y = new Shardmoor();
    y.rule(2, 2);
    y.object();
    throwsBy("the field is missing", y, STATE, z -> z.insert(0, 1));
    y.number(1);
    y.give(2);
    throwsBy("another kind", y, STATE, z -> z.insert(0, 1));
    y.word(1);
    y.give(2);
    due("the kind that is needed", y.insert(0, 1), 0);
  }

  /** What an update makes of a document, and whether it is another one by that. */
  static void updates(String before, int path, int operator, String value, String after) {
    Shardmoor x = with(before);
    if (!value.isEmpty()) {
      tell(x, value);
    }
    String what = before + " at " + path + " by " + operator + " with " + value;
    due(what, x.update(0, 0, path, operator) ? 1 : 0, before.equals(after) ? 0 : 1);
    due("print of " + what, x.print(0), printOf(after));
    due("pile after " + what, x.drop(), operator == 1 && !value.isEmpty() ? 1 : 0);
    due("entry of " + what, x.next(1), before.equals(after) ? -1 : 2);
  }

  static void refusesUpdate(String before, int path, int operator, String value) {
    Shardmoor x = with(before);
    if (!value.isEmpty()) {
      tell(x, value);
    }
    String what = before + " at " + path + " by " + operator + " with " + value;
    throwsBy(what, x, STATE, y -> y.update(0, 0, path, operator) ? 1 : 0);
    due("print after " + what, x.print(0), printOf(before));
    due("pile after " + what, x.drop(), value.isEmpty() ? 0 : 1);
    due("no entry by " + what, x.next(1), -1);
  }

  static void setUnset() {
    updates("{}", 0, 0, "5", "{0:5}");
    updates("{0:5}", 0, 0, "5", "{0:5}");
    updates("{0:5}", 0, 0, "w5", "{0:w5}");
    updates("{1:[1,2],2:3}", 1, 0, "{}", "{1:{},2:3}");
    updates("{}", 17 + 8, 0, "5", "{2:{1:5}}");
    updates("{2:{0:1,4:4}}", 17 + 8, 0, "[5]", "{2:{0:1,1:[5],4:4}}");
    updates("{2:{1:4}}", 17 + 8, 0, "_", "{2:{1:_}}");
    updates("{7:{7:1}}", 71, 0, "2", "{7:{7:2}}");
    updates("{0:{0:1}}", 8, 0, "2", "{0:{0:2}}");
    refusesUpdate("{2:[]}", 25, 0, "5");
    refusesUpdate("{2:_}", 25, 0, "5");
    refusesUpdate("{2:{}}", 25, 0, "");
    updates("{0:5,1:6}", 0, 1, "", "{1:6}");
    updates("{0:5,1:6}", 0, 1, "9", "{1:6}");
    updates("{0:5}", 1, 1, "", "{0:5}");
    updates("{2:{1:4}}", 25, 1, "", "{2:{}}");
    updates("{2:{1:[4,{0:1}],3:1}}", 25, 1, "", "{2:{3:1}}");
    updates("{2:{}}", 25, 1, "", "{2:{}}");
    updates("{}", 25, 1, "", "{}");
    refusesUpdate("{2:5}", 25, 1, "");
  }

  static void addPush() {
    updates("{0:5}", 0, 2, "-6", "{0:-1}");
    updates("{0:5}", 0, 2, "0", "{0:5}");
    updates("{}", 0, 2, "0", "{0:0}");
    updates("{0:-999}", 0, 2, "999", "{0:0}");
    updates("{0:-500}", 0, 2, "-499", "{0:-999}");
    updates("{0:500}", 0, 2, "499", "{0:999}");
    refusesUpdate("{0:-500}", 0, 2, "-500");
    refusesUpdate("{0:500}", 0, 2, "500");
    refusesUpdate("{0:500}", 0, 2, "w1");
    refusesUpdate("{}", 0, 2, "w1");
    refusesUpdate("{0:w5}", 0, 2, "1");
    refusesUpdate("{0:_}", 0, 2, "1");
    refusesUpdate("{0:1}", 0, 2, "");
    updates("{}", 25, 2, "7", "{2:{1:7}}");
    updates("{2:{1:1}}", 25, 2, "7", "{2:{1:8}}");
    refusesUpdate("{2:w7}", 25, 2, "7");
    refusesUpdate("{2:{1:w1}}", 25, 2, "7");
    updates("{}", 3, 3, "[1]", "{3:[[1]]}");
    updates("{3:[1,[2]]}", 3, 3, "1", "{3:[1,[2],1]}");
    refusesUpdate("{3:{}}", 3, 3, "1");
    refusesUpdate("{3:1}", 3, 3, "1");
    refusesUpdate("{3:[1]}", 3, 3, "");
    updates("{}", 25, 3, "w1", "{2:{1:[w1]}}");
    updates("{2:{1:[5],2:6}}", 25, 3, "w1", "{2:{1:[5,w1],2:6}}");
    refusesUpdate("{2:[5]}", 25, 3, "w1");
    refusesUpdate("{2:{1:5}}", 25, 3, "w1");
    String twenty = "1,2,3,4,5,6,7,8,9,10,11,12,13,14,15,16,17,18,19,20";
    updates("{1:[" + twenty + "]}", 1, 3, "[1]", "{1:[" + twenty + ",[1]]}");
    refusesUpdate("{1:[" + twenty + "]}", 1, 3, "[1,2]");
    updates("{1:[" + twenty + "]}", 2, 3, "1", "{1:[" + twenty + "],2:[1]}");
    refusesUpdate("{1:[" + twenty + "]}", 25, 3, "1");
    updates("{1:[" + twenty + "]}", 25, 2, "1", "{1:[" + twenty + "],2:{1:1}}");
    refusesUpdate("{1:[" + twenty + "]}", 2, 0, "[1,2]");
    updates("{1:[" + twenty + ",21]}", 1, 0, "[21]", "{1:[21]}");
    String eight = "{0:{},1:{},2:{},3:{},4:{},5:{},6:{},7:{}}";
    String fieldsOnly = "{0:" + eight + ",1:" + eight + ",3:{0:{},1:{},2:{},3:{}}}";
    refusesUpdate(fieldsOnly, 25, 0, fieldsOnly);
    refusesUpdate(fieldsOnly, 25, 3, fieldsOnly);
    refusesUpdate(fieldsOnly, 25, 2, "1");
    refusesUpdate("{0:" + eight + "}", 25, 0, fieldsOnly);
    refusesUpdate("{0:" + eight + "}", 25, 3, fieldsOnly);
    updates(fieldsOnly, 3, 0, "{3:{1:{},2:{}},4:{}}", "{0:" + eight + ",1:" + eight + ",3:{3:{1:{},2:{}},4:{}}}");
    refusesUpdate(fieldsOnly, 3, 0, "{3:{1:{},2:{}},4:{},5:{}}");
  }

  static void pullEach() {
    updates("{1:[1,2,1,[1],1]}", 1, 4, "1", "{1:[2,[1]]}");
    updates("{1:[[1],[2],[1]]}", 1, 4, "[1]", "{1:[[2]]}");
    updates("{1:[{0:1},1,{0:1,1:1}]}", 1, 4, "{0:1}", "{1:[1,{0:1,1:1}]}");
    updates("{1:[1,w1,_]}", 1, 4, "2", "{1:[1,w1,_]}");
    updates("{1:[1]}", 1, 4, "1", "{1:[]}");
    updates("{1:[1]}", 2, 4, "1", "{1:[1]}");
    updates("{}", 25, 4, "1", "{}");
    updates("{2:{}}", 25, 4, "1", "{2:{}}");
    updates("{2:{1:[4,5]}}", 25, 4, "5", "{2:{1:[4]}}");
    refusesUpdate("{1:1}", 1, 4, "1");
    refusesUpdate("{1:[]}", 9 + 8, 4, "1");
    refusesUpdate("{1:[]}", 1, 4, "");
    refusesUpdate("{2:{1:{}}}", 25, 4, "1");
    updates("{1:[1,w1,[1],{0:1},-5,_]}", 1, 5, "10", "{1:[11,w1,[1],{0:1},5,_]}");
    updates("{1:[1,2]}", 1, 5, "0", "{1:[1,2]}");
    updates("{1:[w1]}", 1, 5, "4", "{1:[w1]}");
    updates("{}", 1, 5, "4", "{}");
    updates("{}", 25, 5, "4", "{}");
    updates("{2:{1:[4,5]}}", 25, 5, "-5", "{2:{1:[-1,0]}}");
    updates("{1:[998,-1]}", 1, 5, "1", "{1:[999,0]}");
    refusesUpdate("{1:[5,999]}", 1, 5, "1");
    refusesUpdate("{1:[5,-999]}", 1, 5, "-1");
    refusesUpdate("{1:[5]}", 1, 5, "w1");
    refusesUpdate("{}", 1, 5, "w1");
    refusesUpdate("{}", 25, 5, "[]");
    refusesUpdate("{1:5}", 1, 5, "1");
    refusesUpdate("{2:5}", 25, 5, "1");
    refusesUpdate("{2:{1:5}}", 25, 5, "1");
    refusesUpdate("{}", 1, 5, "");
  }

  static void promise11() {
    setUnset();
    addPush();
    pullEach();
    for (int n : new int[] {-1, 2, 99, 100, FAR[0], FAR[1]}) {
      refuses("no document", BOUNDS, y -> y.update(0, n, 0, 1) ? 1 : 0);
      refuses("no document, no router", BOUNDS, y -> y.update(7, n, 99, 9) ? 1 : 0);
    }
    for (int n : new int[] {-1, 2, FAR[0], FAR[1]}) {
      refuses("router", ARGUMENT, y -> y.update(n, 3, 0, 1) ? 1 : 0);
    }
    for (int n : new int[] {-1, 72, FAR[0], FAR[1]}) {
      refuses("path", ARGUMENT, y -> y.update(0, 3, n, 1) ? 1 : 0);
    }
    for (int n : new int[] {-1, 6, FAR[0], FAR[1]}) {
      refuses("operator", ARGUMENT, y -> y.update(0, 3, 0, n) ? 1 : 0);
    }
    refuses("a rule", STATE, y -> y.update(0, 3, 1, 1) ? 1 : 0);
    refuses("a rule", STATE, y -> y.update(0, 3, 1, 0) ? 1 : 0);
    refuses("no number", STATE, y -> y.update(0, 3, 0, 2) ? 1 : 0);
    Shardmoor x = with("{0:1}", "{0:2}");
    x.number(500);
    due("to another shard", x.update(1, 1, 0, 0) ? 1 : 0, 1);
    due("its shard", x.document(1, 0), 1);
    due("one entry", x.next(2), 3);
    due("no more", x.next(3), -1);
    due("changed", x.change(3, 0), 1);
    due("document", x.change(3, 1), 1);
    due("in the shard where it lies then", x.change(3, 2), 1);
  }

  static void promise12() {
    Shardmoor x = with("{0:1}", "{0:400}", "{0:999}");
    due("remove", x.remove(1, 1), 1);
    due("remove", x.remove(0, 2), 2);
    due("documents", x.documents(), 1);
    due("its parts", x.document(1, 2), -1);
    throwsBy("again", x, BOUNDS, y -> y.remove(0, 1));
    due("told anew", insert(x, 1, "{0:700}"), 2);
    for (int n : new int[] {-1, 2, 100, FAR[0], FAR[1]}) {
      refuses("no document", BOUNDS, y -> y.remove(0, n));
      refuses("no document, no router", BOUNDS, y -> y.remove(9, n));
    }
    for (int n : new int[] {-1, 2, FAR[0], FAR[1]}) {
      refuses("router", ARGUMENT, y -> y.remove(n, 3));
    }
  }

  static void promise13() {
    String[] values = {"_", "1", "w1", "[]", "{}"};
    for (int kind = 1; kind <= 4; kind++) {
      for (int i = 0; i < values.length; i++) {
        Shardmoor x = with("{3:" + values[i] + "}");
        int needed = kind;
        if (i == kind) {
          due("rule", x.rule(3, kind), 0);
          due("rule", x.rule(3, 0), kind);
          due("rule", x.rule(3, kind), 0);
        } else {
          throwsBy("rule " + kind + " for " + values[i], x, STATE, y -> y.rule(3, needed));
          due("rule as before", x.rule(3, 0), 0);
        }
      }
      int needed = kind;
      throwsBy("rule for a missing field", with("{}"), STATE, y -> y.rule(7, needed));
    }
    Shardmoor x = new Shardmoor();
    due("rule", x.rule(7, 4), 0);
    due("rule", x.rule(7, 1), 4);
    due("rule", x.rule(0, 1), 0);
    throwsBy("one of two rules", x, STATE, y -> insert(y, 1, "{0:1}"));
    x.drop();
    due("both", insert(x, 1, "{0:1,7:1}"), 0);
    throwsBy("unset", x, STATE, y -> y.update(0, 1, 7, 1) ? 1 : 0);
    x.word(1);
    throwsBy("set", x, STATE, y -> y.update(0, 1, 7, 0) ? 1 : 0);
    x.rule(7, 0);
    due("set without the rule", x.update(0, 1, 7, 0) ? 1 : 0, 1);
    for (int n : new int[] {-1, 8, FAR[0], FAR[1]}) {
      refuses("field", ARGUMENT, y -> y.rule(n, 0));
    }
    for (int n : new int[] {-1, 5, FAR[0], FAR[1]}) {
      refuses("kind", ARGUMENT, y -> y.rule(1, n));
    }
    refuses("kept by some only", STATE, y -> y.rule(3, 1));
  }

  static void promises14And15() {
    Shardmoor x = with("{0:1,1:2}");
    due("index", x.index(71, true), 0);
    due("index", x.index(0, false), 1);
    throwsBy("the same path", x, STATE, y -> y.index(0, true));
    due("index", x.index(1, false), 2);
    throwsBy("a fourth", x, STATE, y -> y.index(2, false));
    throwsBy("a fourth, no path", x, ARGUMENT, y -> y.index(72, false));
    due("drop", x.dropIndex(1), 0);
    throwsBy("dropped", x, BOUNDS, y -> y.dropIndex(1));
    throwsBy("dropped", x, BOUNDS, y -> y.entries(1));
    due("the lowest that is free", x.index(2, false), 1);
    due("drop", x.dropIndex(2), 0);
    due("drop", x.dropIndex(0), 0);
    due("the lowest that is free", x.index(0, false), 0);
    for (int n : new int[] {-1, 72, FAR[0], FAR[1]}) {
      refuses("path", ARGUMENT, y -> y.index(n, true));
    }
    refuses("one with the path", STATE, y -> y.index(1, false));
    for (int n : new int[] {-1, 2, 3, FAR[0], FAR[1]}) {
      refuses("no index", BOUNDS, y -> y.dropIndex(n));
    }
    Shardmoor plans = with("{0:1,1:2}", "{0:2,1:2}", "{0:3,1:3}");
    plans.index(0, true);
    plans.index(1, true);
    filter(plans, 0, 0, "1");
    plans.find(0);
    filter(plans, 2, 3, "_");
    plans.find(0);
    plans.clear();
    filter(plans, 1, 0, "3");
    plans.find(0);
    plans.clear();
    plans.find(0);
    due("plans", plans.plan(4), 4);
    due("two plans with it", plans.dropIndex(0), 2);
    due("plans", plans.plan(4), 2);
    due("it looked by", plans.plan(0), -1);
    due("one plan with it", plans.dropIndex(1), 1);
    due("the one by none", plans.plan(4), 1);
  }

  static void promise16() {
    Shardmoor x = new Shardmoor();
    tell(x, "1");
    due("filter", x.filter(71, 4), 1);
    tell(x, "_");
    due("filter", x.filter(0, 3), 2);
    tell(x, "[]");
    due("filter", x.filter(0, 1), 3);
    due("the values are taken", x.drop(), 0);
    throwsBy("an empty pile", x, STATE, y -> y.filter(0, 3));
    x.number(1);
    throwsBy("a fourth", x, STATE, y -> y.filter(0, 0));
    due("the value stays", x.drop(), 1);
    due("clear", x.clear(), 3);
    for (String value : new String[] {"_", "w1", "[]", "{}"}) {
      tell(x, value);
      throwsBy("no number", x, STATE, y -> y.filter(0, 4));
    }
    due("all stay", x.drop(), 4);
    for (int n : new int[] {-1, 72, FAR[0], FAR[1]}) {
      refuses("path", ARGUMENT, y -> y.filter(n, 0));
    }
    for (int n : new int[] {-1, 5, FAR[0], FAR[1]}) {
      refuses("relation", ARGUMENT, y -> y.filter(0, n));
    }
    refuses("no number", STATE, y -> y.filter(0, 4));
  }

  static void promise17() {
    Shardmoor x = with("{0:1}", "{0:2}");
    filter(x, 0, 0, "2");
    due("find", x.find(0), 1);
    due("clear", x.clear(), 1);
    due("what was found stays", x.found(0), 1);
    due("clear", x.clear(), 0);
    due("find", x.find(0), 2);
  }

  static void relations() {
    String[] rows = {"{}", "{1:_}", "{1:1}", "{1:w1}", "{1:[]}", "{1:[1]}", "{1:{}}", "{1:[[1],2]}"};
    dueText("same as 1", fitting(1, 0, "1", rows), "2 5");
    dueText("same as w1", fitting(1, 0, "w1", rows), "3");
    dueText("same as nothing", fitting(1, 0, "_", rows), "1");
    dueText("same as []", fitting(1, 0, "[]", rows), "4");
    dueText("same as [1]", fitting(1, 0, "[1]", rows), "5 7");
    dueText("same as {}", fitting(1, 0, "{}", rows), "6");
    dueText("has", fitting(1, 3, "w9", rows), "1 2 3 4 5 6 7");
    dueText("parts 0", fitting(1, 4, "0", rows), "4");
    dueText("parts 1", fitting(1, 4, "1", rows), "5 7");
    dueText("parts 2", fitting(1, 4, "2", rows), "7");
    dueText("parts -1", fitting(1, 4, "-1", rows), "");
    String[] sizes = {"{1:-999}", "{1:0}", "{1:1}", "{1:2}", "{1:999}", "{1:w0}", "{1:w1}", "{1:w2}", "{1:[w0,3]}", "{1:_}"};
    dueText("less than 1", fitting(1, 1, "1", sizes), "0 1");
    dueText("greater than 1", fitting(1, 2, "1", sizes), "3 4 8");
    dueText("less than w1", fitting(1, 1, "w1", sizes), "5 8");
    dueText("greater than w1", fitting(1, 2, "w1", sizes), "7");
    dueText("greater than -999", fitting(1, 2, "-999", sizes), "1 2 3 4 8");
    dueText("less than -999", fitting(1, 1, "-999", sizes), "");
    for (String none : new String[] {"_", "[]", "{}", "[9]"}) {
      dueText("less than " + none, fitting(1, 1, none, sizes), "");
      dueText("greater than " + none, fitting(1, 2, none, sizes), "");
    }
  }

  static void paths() {
    String[] rows = {"{2:{1:5}}", "{2:{1:[5,[5],6]}}", "{2:[{1:5},{0:7},[{1:6}],{1:[7]}]}", "{2:5}", "{1:5}", "{2:{0:5}}"};
    dueText("5 at 25", fitting(25, 0, "5", rows), "0 1 2");
    dueText("6 at 25", fitting(25, 0, "6", rows), "1");
    dueText("7 at 25", fitting(25, 0, "7", rows), "2");
    dueText("[5] at 25", fitting(25, 0, "[5]", rows), "1");
    dueText("[7] at 25", fitting(25, 0, "[7]", rows), "2");
    dueText("some at 25", fitting(25, 3, "_", rows), "0 1 2");
    dueText("5 at 2", fitting(2, 0, "5", rows), "3");
    dueText("{1:5} at 2", fitting(2, 0, "{1:5}", rows), "0 2");
    dueText("{0:7} at 2", fitting(2, 0, "{0:7}", rows), "2");
    dueText("4 parts at 2", fitting(2, 4, "4", rows), "2");
    dueText("a field in a field of field 7", fitting(71, 0, "1", "{7:{7:1}}", "{7:1}", "{7:[{7:1}]}"), "0 2");
    dueText("a field in field 0", fitting(8, 0, "1", "{0:{0:1}}", "{0:1}", "{1:{0:1}}"), "0");
    dueText("the same object, its fields told in another order", fitting(0, 0, "{3:1,1:2}", "{0:{1:2,3:1}}"), "0");
  }

  static void promises18To20() {
    relations();
    paths();
    Shardmoor x = with("{0:1,1:1}", "{0:2,1:1}", "{0:3,1:2}", "{0:4,1:1,2:1}");
    due("no filter", x.find(0), 4);
    filter(x, 1, 0, "1");
    due("one", x.find(0), 3);
    filter(x, 0, 2, "1");
    due("two", x.find(1), 2);
    filter(x, 2, 3, "_");
    due("three", x.find(1), 1);
    due("found", x.found(0), 3);
    throwsBy("found", x, BOUNDS, y -> y.found(1));
    due("findAnew", x.findAnew(), 1);
    x.remove(0, 3);
    due("found as it was", x.found(0), 3);
    due("findAnew", x.findAnew(), 0);
    insert(x, 90, "{0:2,1:1,2:_}");
    insert(x, 20, "{0:2,1:1,2:_}");
    due("findAnew", x.findAnew(), 2);
    due("found as it was", x.found(0), 3);
    due("find", x.find(0), 2);
    due("by rising numbers", x.found(0), 20);
    due("by rising numbers", x.found(1), 90);
    for (int n : new int[] {-1, 2, FAR[0], FAR[1]}) {
      refuses("router", ARGUMENT, y -> y.find(n));
    }
    for (int n : new int[] {-1, 2, 3, FAR[0], FAR[1]}) {
      refuses("found", BOUNDS, y -> y.found(n));
    }
    throwsBy("nothing is found yet", with("{}"), BOUNDS, y -> y.found(0));
  }

  static void duePlan(String what, Shardmoor x, int... answers) {
    for (int i = 0; i < answers.length; i++) {
      due(what + ": plan(" + i + ")", x.plan(i), answers[i]);
    }
  }

  static void promise21() {
    Shardmoor x = with("{1:1,2:5}", "{1:1,2:6}", "{1:2,2:7}", "{1:3}", "{}");
    duePlan("no query yet", x, -1, 0, 0, 0, 0);
    filter(x, 1, 0, "1");
    x.find(0);
    duePlan("no index", x, -1, 5, 1, 0, 1);
    x.index(1, true);
    x.find(0);
    duePlan("the plan that is kept", x, -1, 5, 0, 0, 1);
    x.index(2, true);
    x.clear();
    filter(x, 2, 0, "_");
    x.find(0);
    duePlan("a sparse index has no entry for none", x, 1, 0, 2, 0, 2);
    x.clear();
    filter(x, 2, 3, "_");
    x.find(0);
    duePlan("no index looks by the relation 3", x, -1, 5, 1, 0, 3);
    x.clear();
    filter(x, 1, 4, "1");
    x.find(0);
    duePlan("nor by 4", x, -1, 5, 1, 0, 4);
    x.clear();
    filter(x, 1, 2, "1");
    filter(x, 1, 1, "9");
    x.find(0);
    duePlan("the first filter", x, 0, 2, 2, 0, 5);
    x.clear();
    filter(x, 1, 1, "9");
    filter(x, 1, 2, "1");
    due("find", x.find(0), 2);
    duePlan("another order", x, 0, 4, 2, 0, 6);
    x.clear();
    filter(x, 1, 3, "_");
    filter(x, 2, 2, "5");
    filter(x, 1, 2, "1");
    x.find(0);
    duePlan("of several the lowest index", x, 0, 2, 3, 0, 7);
    x.clear();
    filter(x, 1, 3, "_");
    filter(x, 2, 2, "6");
    filter(x, 1, 2, "1");
    x.find(0);
    duePlan("by its paths and relations", x, 0, 2, 0, 0, 7);
    for (int n : new int[] {-1, 5, FAR[0], FAR[1]}) {
      refuses("what", ARGUMENT, y -> y.plan(n));
    }
  }

  static void plansAreDropped() {
    Shardmoor x = with("{1:1}", "{1:2}", "{1:2}", "{1:2}", "{1:2}", "{1:3}", "{1:3}", "{1:3}", "{1:3}", "{1:3}");
    x.index(1, false);
    filter(x, 1, 0, "1");
    x.find(0);
    duePlan("kept at 1", x, 0, 1, 2, 0, 1);
    x.clear();
    filter(x, 1, 0, "2");
    x.find(0);
    duePlan("4 is twice 1, and 2", x, 0, 4, 0, 0, 1);
    x.clear();
    filter(x, 1, 0, "3");
    due("found", x.find(0), 5);
    duePlan("5 is more", x, 0, 5, 2, 1, 1);
    x.clear();
    filter(x, 1, 0, "9");
    x.find(0);
    duePlan("now kept at 5", x, 0, 0, 0, 0, 1);
    x.clear();
    Shardmoor none = new Shardmoor();
    none.find(0);
    duePlan("no documents", none, -1, 0, 1, 0, 1);
    insert(none, 0, "{}");
    insert(none, 1, "{}");
    none.find(0);
    duePlan("2 documents", none, -1, 2, 0, 0, 1);
    insert(none, 2, "{}");
    none.find(0);
    duePlan("3 documents", none, -1, 3, 1, 1, 1);
    none.find(0);
    duePlan("once more", none, -1, 3, 0, 0, 1);
    Shardmoor empty = new Shardmoor();
    empty.index(3, true);
    empty.index(2, true);
    filter(empty, 2, 0, "1");
    filter(empty, 3, 0, "1");
    empty.find(0);
    duePlan("none last", empty, 0, 0, 3, 0, 1);
    Shardmoor missing = with("{}", "{1:1}", "{}", "{2:[1,1,[1]]}", "{1:_}");
    missing.index(1, false);
    filter(missing, 1, 0, "_");
    due("only what has nothing is found", missing.find(0), 1);
    duePlan("those with none are looked at", missing, 0, 4, 2, 0, 1);
    missing.index(2, true);
    missing.clear();
    filter(missing, 2, 2, "0");
    missing.find(0);
    duePlan("a document is looked at once", missing, 1, 1, 2, 0, 2);
  }

  static void dueGroup(Shardmoor x, int place, String value, long times, long sum) {
    due("value of group " + place, x.grouped(place, 0), printOf(value));
    due("times of group " + place, x.grouped(place, 1), times);
    due("sum of group " + place, x.grouped(place, 2), sum);
  }

  static void promises22And23() {
    Shardmoor x = with("{0:1,1:w2,2:[10,20,[5],w7]}", "{0:2,1:[3,3,[3]],2:-4}", "{0:3,1:3}", "{0:4}", "{0:5,1:_}",
        "{0:6,1:{1:1}}", "{0:7,1:{0:9,1:1}}", "{0:8,1:{0:9}}", "{0:9,1:{}}", "{1:w0,0:10}", "{1:-1}", "{1:[]}");
    throwsBy("no groups yet", x, BOUNDS, y -> y.grouped(0, 0));
    due("nothing is found yet", x.group(1, 0), 0);
    x.find(0);
    due("groups", x.group(1, 2), 9);
    dueGroup(x, 0, "_", 1, 0);
    dueGroup(x, 1, "-1", 1, 0);
    dueGroup(x, 2, "3", 3, -8);
    dueGroup(x, 3, "w0", 1, 0);
    dueGroup(x, 4, "w2", 1, 30);
    dueGroup(x, 5, "{}", 1, 0);
    dueGroup(x, 6, "{0:9}", 1, 0);
    dueGroup(x, 7, "{0:9,1:1}", 1, 0);
    dueGroup(x, 8, "{1:1}", 1, 0);
    throwsBy("one more", x, BOUNDS, y -> y.grouped(9, 0));
    due("by another sum", x.group(1, 0), 9);
    dueGroup(x, 2, "3", 3, 7);
    x.remove(0, 4);
    x.number(100);
    x.update(0, 2, 0, 0);
    due("groups stay", x.grouped(0, 0), printOf("_"));
    due("as they are now", x.group(1, 0), 8);
    dueGroup(x, 1, "3", 3, 104);
    insert(x, 4, "{1:5}");
    insert(x, 50, "{1:5}");
    due("by their numbers", x.group(1, 0), 9);
    dueGroup(x, 2, "5", 1, 0);
    due("groups in objects", x.group(16, 0), 1);
    dueGroup(x, 0, "9", 2, 15);
    for (int n : new int[] {-1, 72, FAR[0], FAR[1]}) {
      refuses("path", ARGUMENT, y -> y.group(n, 0));
      refuses("sum", ARGUMENT, y -> y.group(0, n));
    }
    for (int n : new int[] {-1, 90, FAR[0], FAR[1]}) {
      refuses("group", BOUNDS, y -> y.grouped(n, 0));
      refuses("group and what", BOUNDS, y -> y.grouped(n, 7));
    }
    for (int n : new int[] {-1, 3, FAR[0], FAR[1]}) {
      refuses("what", ARGUMENT, y -> y.grouped(0, n));
    }
    Shardmoor many = new Shardmoor();
    for (int i = 0; i < 10; i++) {
      many.object();
      many.row();
      for (int j = 0; j < 20; j++) {
        many.number(200 - 20 * i - j);
        many.add();
      }
      many.give(1);
      many.insert(0, i);
    }
    many.find(0);
    due("groups", many.group(1, 1), 200);
    due("first", many.grouped(0, 0), printOf("1"));
    due("last", many.grouped(199, 0), printOf("200"));
    due("sum", many.grouped(199, 2), 3810);
  }

  static void promise24() {
    Shardmoor x = with("{0:0}", "{0:99}", "{0:100}", "{0:333}");
    due("split", x.split(0, 100), 4);
    due("first", x.chunk(0, 0), 0);
    due("its documents", x.chunk(0, 2), 2);
    due("second", x.chunk(1, 0), 100);
    due("its documents", x.chunk(1, 2), 2);
    due("its shard", x.chunk(1, 1), 0);
    due("the next", x.chunk(2, 0), 334);
    due("the next one's shard", x.chunk(2, 1), 1);
    due("a chunk's last key", x.split(3, 999), 5);
    due("the last chunk", x.chunk(4, 0), 999);
    due("its shard", x.chunk(4, 1), 2);
    for (int at : new int[] {99, 100, 334, 999, -1, FAR[0], FAR[1]}) {
      throwsBy("split at " + at, x, ARGUMENT, y -> y.split(1, at));
    }
    throwsBy("one key only", x, ARGUMENT, y -> y.split(4, 999));
    throwsBy("beyond all keys", x, ARGUMENT, y -> y.split(4, 1000));
    throwsBy("no chunk", x, BOUNDS, y -> y.split(5, 100));
    throwsBy("no chunk", x, BOUNDS, y -> y.split(-1, 100));
    due("split", x.split(0, 1), 6);
    due("no document moved", x.document(1, 0), 0);
    for (int i = 0; i < 6; i++) {
      due("split", x.split(2, 140 - i), 7 + i);
    }
    throwsBy("a 13th", x, STATE, y -> y.split(2, 120));
    throwsBy("a 13th, no key", x, ARGUMENT, y -> y.split(2, 334));
    x.find(0);
    due("version", x.router(0, 0), 10);
    for (int n : new int[] {-1, 4, FAR[0], FAR[1]}) {
      refuses("chunk", BOUNDS, y -> y.split(n, -1));
    }
    refuses("no key of it", ARGUMENT, y -> y.split(1, 100));
    refuses("it moves", STATE, y -> y.split(1, 101));
  }

  static void dueShards(String what, Shardmoor x, int... answers) {
    for (int i = 0; i < answers.length; i++) {
      due(what + ": shard(" + i / 3 + ", " + i % 3 + ")", x.shard(i / 3, i % 3), answers[i]);
    }
  }

  static void promises25To28() {
    Shardmoor x = with("{0:0}", "{0:10}", "{0:20}", "{0:30}", "{0:400}");
    due("move", x.move(0, 2), 4);
    due("it moves", x.chunk(0, 3), 1);
    due("another", x.chunk(1, 3), 0);
    throwsBy("one moves", x, STATE, y -> y.move(1, 2));
    throwsBy("key", x, STATE, y -> y.key(0, false));
    throwsBy("not copied", x, STATE, y -> y.handOver());
    due("copy", x.copy(1), 3);
    dueShards("one copy", x, 4, 0, 0, 1, 0, 0, 0, 0, 1);
    x.number(5);
    x.update(0, 0, 1, 0);
    due("copied ahead", x.shard(2, 2), 1);
    x.number(5);
    x.update(0, 2, 1, 0);
    due("changed, so copied", x.shard(2, 2), 2);
    x.number(20);
    due("not changed", x.update(0, 3, 0, 0) ? 1 : 0, 1);
    x.number(20);
    x.update(0, 3, 0, 0);
    due("copied", x.shard(2, 2), 3);
    insert(x, 9, "{0:333}");
    insert(x, 8, "{0:334}");
    due("come, so copied", x.shard(2, 2), 4);
    x.remove(0, 0);
    due("gone there, too", x.shard(2, 2), 3);
    x.number(500);
    x.update(0, 2, 0, 0);
    due("went to another chunk", x.shard(2, 2), 2);
    x.number(300);
    x.update(0, 4, 0, 0);
    due("came from another", x.shard(2, 2), 3);
    due("copy", x.copy(20), 0);
    dueShards("all are copied", x, 4, 0, 0, 2, 0, 0, 0, 0, 4);
    due("where they lie", x.document(1, 0), 0);
    due("handOver", x.handOver(), 4);
    dueShards("handed over", x, 0, 4, 0, 2, 0, 0, 4, 0, 0);
    due("where they lie", x.document(1, 0), 2);
    due("the chunk's shard", x.chunk(0, 1), 2);
    due("it does not move", x.chunk(0, 3), 0);
    throwsBy("none moves", x, STATE, y -> y.handOver());
    throwsBy("none moves", x, STATE, y -> y.giveUp());
    throwsBy("none moves", x, STATE, y -> y.copy(1));
    throwsBy("none moves, too many", x, ARGUMENT, y -> y.copy(21));
    due("back", x.move(0, 0), 4);
    due("copy", x.copy(3), 1);
    due("giveUp", x.giveUp(), 3);
    dueShards("given up", x, 0, 4, 0, 2, 0, 0, 4, 0, 0);
    due("all anew", x.move(0, 1), 4);
    x.copy(20);
    due("handOver", x.handOver(), 4);
    dueShards("orphans in two", x, 0, 4, 0, 6, 0, 0, 0, 4, 0);
    due("an unchanged one", unchangedWhileMoving(), 0);
    due("an empty chunk", new Shardmoor().move(1, 0), 0);
    Shardmoor empty = new Shardmoor();
    empty.move(1, 0);
    due("an empty chunk is handed over", empty.handOver(), 0);
    due("its shard", empty.chunk(1, 1), 0);
    wrongMoves();
  }

  /** How many copies there are after an update that changes nothing. */
  private static int unchangedWhileMoving() {
    Shardmoor x = with("{0:5}");
    x.move(0, 1);
    x.number(5);
    x.update(0, 0, 0, 0);
    return x.shard(1, 2);
  }

  private static void wrongMoves() {
    for (int n : new int[] {-1, 4, FAR[0], FAR[1]}) {
      refuses("chunk", BOUNDS, y -> y.move(n, 9));
    }
    for (int n : new int[] {-1, 3, FAR[0], FAR[1]}) {
      refuses("shard", ARGUMENT, y -> y.move(0, n));
    }
    refuses("one moves", STATE, y -> y.move(2, 0));
    for (int n : new int[] {-1, 0, 21, FAR[0], FAR[1]}) {
      refuses("many", ARGUMENT, y -> y.copy(n));
    }
    refuses("not copied", STATE, y -> y.handOver());
    Shardmoor x = new Shardmoor();
    throwsBy("of that shard", x, STATE, y -> y.move(1, 1));
    throwsBy("none moves", x, STATE, y -> y.copy(20));
    throwsBy("none moves", x, STATE, y -> y.handOver());
    throwsBy("none moves", x, STATE, y -> y.giveUp());
    x.move(2, 0);
    due("a chunk ahead is split", x.split(0, 5), 4);
    due("the one that moves", x.chunk(3, 3), 1);
    due("and no other", x.chunk(2, 3), 0);
    due("one behind it is none", x.split(1, 50), 5);
    throwsBy("the one that moves", x, STATE, y -> y.split(4, 800));
    x.handOver();
    due("its shard", x.chunk(4, 1), 0);
  }

  static void promise29() {
    Shardmoor x = with("{0:0}", "{0:1}", "{0:400}");
    x.move(0, 1);
    x.copy(2);
    x.handOver();
    x.move(1, 0);
    x.copy(20);
    x.handOver();
    due("orphans", x.shard(0, 1), 2);
    due("orphans", x.shard(1, 1), 1);
    due("clean", x.clean(2), 0);
    due("clean", x.clean(0), 2);
    due("clean", x.clean(0), 0);
    due("others stay", x.shard(1, 1), 1);
    due("documents", x.documents(), 3);
    for (int n : new int[] {-1, 3, FAR[0], FAR[1]}) {
      refuses("shard", ARGUMENT, y -> y.clean(n));
    }
  }

  static void promise30() {
    Shardmoor x = with("{0:1,1:999}", "{0:999,1:999}", "{0:500,1:w3}", "{1:-5}", "{0:700,1:700}");
    x.split(0, 5);
    x.move(2, 0);
    x.copy(5);
    x.handOver();
    due("orphans", x.shard(1, 1), 1);
    due("another key", x.key(1, false), 1);
    due("key", x.document(0, 1), 999);
    due("shard", x.document(0, 0), 2);
    due("a word", x.document(2, 1), 0);
    due("below 0", x.document(3, 1), 0);
    throwsBy("chunks as at first", x, BOUNDS, y -> y.chunk(3, 0));
    due("chunks as at first", x.chunk(1, 1), 1);
    due("no orphans", x.shard(1, 1), 0);
    x.find(0);
    due("version", x.router(0, 0), 4);
    due("the same key anew", x.key(1, false), 0);
    x.find(0);
    due("version", x.router(0, 0), 5);
    due("hashed", x.key(1, true), hashedMoves());
    due("key of 999", x.document(0, 1), 7919 * 1999 % 1000);
    due("key of w3", x.document(2, 1), (104729 * 3 + 500) % 1000);
    due("key of -5", x.document(3, 1), 7919 * 995 % 1000);
    x.key(7, true);
    due("a missing one", x.document(0, 1), 250);
    x.key(7, false);
    due("a missing one", x.document(0, 1), 0);
    for (String value : new String[] {"_", "[1]", "{0:1}"}) {
      Shardmoor y = with("{7:" + value + "}");
      y.key(7, true);
      due("hashed " + value, y.document(0, 1), 250);
      y.key(7, false);
      due("not hashed " + value, y.document(0, 1), 0);
    }
    for (String[] pair : new String[][] {{"-999", "919"}, {"0", "0"}, {"1", "919"}, {"w0", "500"}, {"w99", "671"}}) {
      Shardmoor y = with("{7:" + pair[0] + "}");
      y.key(7, true);
      due("hashed " + pair[0], y.document(0, 1), Integer.parseInt(pair[1]));
    }
    due("no entries by that", x.next(5), -1);
    for (int n : new int[] {-1, 8, FAR[0], FAR[1]}) {
      refuses("field", ARGUMENT, y -> y.key(n, true));
    }
    refuses("a chunk moves", STATE, y -> y.key(1, true));
  }

  /** By the key 1 the shards are 2 2 0 0 2; hashed 81 81 687 405 300 are the keys. */
  private static int hashedMoves() {
    return 5;
  }

  static void promise31() {
    Shardmoor x = new Shardmoor();
    due("expire", x.expire(7), -1);
    due("expire", x.expire(0), 7);
    due("expire", x.expire(-1), 0);
    due("expire", x.expire(3), -1);
    for (int n : new int[] {-2, 8, FAR[0], FAR[1]}) {
      refuses("field", ARGUMENT, y -> y.expire(n));
    }
  }

  static void promise32() {
    Shardmoor x = with("{5:3}", "{5:2}", "{5:w1}", "{5:[1]}", "{}", "{5:21}", "{5:-999}", "{5:3,0:500}");
    due("no field", x.tick(1), 0);
    x.expire(5);
    due("documents", x.documents(), 8);
    due("now 2", x.tick(1), 2);
    due("the first that went", x.change(9, 1), 1);
    due("the second that went", x.change(10, 1), 6);
    due("what", x.change(10, 0), 2);
    due("now 20", x.tick(18), 2);
    due("by rising numbers", x.change(11, 1), 0);
    due("by rising numbers", x.change(12, 1), 7);
    due("where it lay", x.change(12, 2), 1);
    due("now", x.now(), 20);
    due("documents", x.documents(), 4);
    due("now 21", x.tick(1), 1);
    due("tick", x.tick(20), 0);
    due("now", x.now(), 41);
    Shardmoor order = with("{5:2}", "{5:1}", "{5:2}");
    order.expire(5);
    order.tick(20);
    due("by their ticks", order.change(4, 1), 1);
    due("by their ticks", order.change(5, 1), 0);
    due("by their ticks", order.change(6, 1), 2);
    Shardmoor moving = with("{5:2}", "{5:1}");
    moving.index(5, false);
    moving.expire(5);
    moving.move(0, 1);
    moving.copy(2);
    due("went", moving.tick(1), 1);
    due("no copy of it", moving.shard(1, 2), 1);
    due("no entries of it", moving.entries(0), 1);
    moving.copy(1);
    due("handOver", moving.handOver(), 1);
    for (int n : new int[] {-1, 0, 21, FAR[0], FAR[1]}) {
      refuses("ticks", ARGUMENT, y -> y.tick(n));
    }
  }

  static void promises33To35() {
    Shardmoor x = with("{0:340,1:[1,{2:_}]}", "{}");
    due("documents", x.documents(), 2);
    due("shard", x.document(0, 0), 1);
    due("key", x.document(0, 1), 340);
    due("parts", x.document(0, 2), 6);
    due("parts", x.document(1, 2), 1);
    due("none", x.document(2, 0), -1);
    for (int n : new int[] {-1, 100, FAR[0], FAR[1]}) {
      due("none", x.document(n, 2), -1);
      throwsBy("print", x, BOUNDS, y -> y.print(n));
      refuses("print", BOUNDS, y -> y.print(n));
    }
    for (int n : new int[] {-1, 3, FAR[0], FAR[1]}) {
      throwsBy("what", x, ARGUMENT, y -> y.document(0, n));
      throwsBy("what of none", x, ARGUMENT, y -> y.document(-1, n));
      refuses("what", ARGUMENT, y -> y.document(3, n));
    }
    due("print", x.print(1), (7 * 31 + 5) * 31);
    due("print", x.print(0), printOf("{0:340,1:[1,{2:_}]}"));
    throwsBy("print", x, BOUNDS, y -> y.print(2));
  }

  static void promises36And37() {
    String[] rows = {"{}", "{1:_}", "{1:5}", "{1:[]}", "{1:[5,5,6]}", "{1:[[5],[5],5]}", "{1:{0:5}}"};
    Shardmoor x = with(rows);
    x.index(1, true);
    due("sparse", x.entries(0), 1 + 1 + 1 + 3 + 3 + 1);
    due("anew", x.entriesAnew(0), 10);
    x.dropIndex(0);
    x.index(1, false);
    due("not sparse", x.entries(0), 11);
    due("anew", x.entriesAnew(0), 11);
    x.remove(0, 4);
    due("removed", x.entries(0), 8);
    x.number(5);
    x.update(0, 3, 1, 3);
    due("pushed", x.entries(0), 9);
    insert(x, 4, "{1:[1,2,3]}");
    due("told", x.entries(0), 13);
    due("anew", x.entriesAnew(0), 13);
    x.move(0, 1);
    x.copy(3);
    due("copies are not counted", x.entries(0), 13);
    x.copy(20);
    x.handOver();
    due("orphans are not counted", x.entriesAnew(0), 13);
    due("orphans are not counted", x.entries(0), 13);
    Shardmoor two = with("{1:[{0:5},{0:5},{1:5},{0:6},{0:[5]}]}", "{1:{0:[5,6,6]}}", "{1:5}", "{}");
    due("index", two.index(16, false), 0);
    due("two fields", two.entries(0), 3 + 3 + 1 + 1);
    due("anew", two.entriesAnew(0), 8);
    for (int n : new int[] {-1, 2, 3, FAR[0], FAR[1]}) {
      refuses("entries", BOUNDS, y -> y.entries(n));
      refuses("entriesAnew", BOUNDS, y -> y.entriesAnew(n));
    }
  }

  static void promises38And39() {
    Shardmoor x = with("{0:333}", "{0:334}", "{0:666}", "{0:667}", "{0:999}", "{0:-1}");
    due("documents of a chunk", x.chunk(0, 2), 2);
    due("documents of a chunk", x.chunk(1, 2), 2);
    due("documents of a chunk", x.chunk(2, 2), 2);
    dueShards("at first", x, 2, 0, 0, 2, 0, 0, 2, 0, 0);
    x.move(2, 0);
    x.copy(1);
    due("moves", x.chunk(2, 3), 1);
    due("moves not", x.chunk(1, 3), 0);
    dueShards("a copy", x, 2, 0, 1, 2, 0, 0, 2, 0, 0);
    for (int n : new int[] {-1, 3, 12, FAR[0], FAR[1]}) {
      throwsBy("chunk", x, BOUNDS, y -> y.chunk(n, 0));
      throwsBy("chunk and what", x, BOUNDS, y -> y.chunk(n, 4));
    }
    for (int n : new int[] {-1, 4, FAR[0], FAR[1]}) {
      refuses("what", ARGUMENT, y -> y.chunk(0, n));
    }
    for (int n : new int[] {-1, 3, FAR[0], FAR[1]}) {
      refuses("shard", ARGUMENT, y -> y.shard(n, 0));
      refuses("what", ARGUMENT, y -> y.shard(0, n));
    }
  }

  static void promise40() {
    Shardmoor x = new Shardmoor();
    insert(x, 1, "{}");
    due("version", x.router(0, 0), 1);
    due("stale", x.router(0, 1), 0);
    x.split(0, 5);
    due("not used yet", x.router(0, 0), 1);
    due("not used yet", x.router(0, 1), 0);
    x.split(0, 3);
    x.find(0);
    due("version", x.router(0, 0), 3);
    due("stale", x.router(0, 1), 1);
    due("the other", x.router(1, 0), 1);
    due("the other", x.router(1, 1), 0);
    x.find(0);
    due("not stale", x.router(0, 1), 1);
    throwsBy("throws", x, STATE, y -> y.insert(1, 1));
    throwsBy("throws", x, BOUNDS, y -> y.remove(1, 2));
    throwsBy("throws", x, STATE, y -> y.update(1, 1, 0, 0) ? 1 : 0);
    due("a call that throws does not use it", x.router(1, 0), 1);
    insert(x, 2, "{}");
    tell(x, "{}");
    x.insert(1, 3);
    due("insert uses it", x.router(1, 0), 3);
    x.key(0, false);
    x.update(1, 3, 0, 1);
    due("an update that changes nothing uses it", x.router(1, 0), 4);
    due("stale", x.router(1, 1), 2);
    x.split(1, 340);
    x.number(2);
    x.update(1, 3, 0, 0);
    due("an update uses it", x.router(1, 1), 3);
    x.split(1, 338);
    x.remove(1, 3);
    due("remove uses it", x.router(1, 1), 4);
    x.move(0, 1);
    x.find(1);
    due("a move that begins is no new map", x.router(1, 0), 6);
    x.copy(20);
    x.giveUp();
    x.find(1);
    due("nor one that is given up", x.router(1, 0), 6);
    for (int n : new int[] {-1, 2, FAR[0], FAR[1]}) {
      refuses("router", ARGUMENT, y -> y.router(n, 0));
      refuses("what", ARGUMENT, y -> y.router(0, n));
    }
  }

  static void promises41And42() {
    Shardmoor x = new Shardmoor();
    for (int token : new int[] {-5, 0, 1, FAR[0], FAR[1]}) {
      due("next of none", x.next(token), -1);
    }
    insert(x, 5, "{0:1}");
    insert(x, 6, "{0:400}");
    x.number(999);
    x.update(0, 5, 0, 0);
    x.number(999);
    x.update(0, 5, 0, 0);
    x.remove(0, 6);
    int[][] entries = {{0, 5, 0}, {0, 6, 1}, {1, 5, 2}, {2, 6, 1}};
    for (int time = 1; time <= 4; time++) {
      due("next", x.next(time - 1), time);
      for (int what = 0; what < 3; what++) {
        due("change(" + time + ", " + what + ")", x.change(time, what), entries[time - 1][what]);
      }
    }
    due("next", x.next(FAR[0]), 1);
    due("next", x.next(-1), 1);
    due("next", x.next(4), -1);
    due("next", x.next(FAR[1]), -1);
    x.move(2, 0);
    x.copy(1);
    x.handOver();
    due("what moves makes no entries", x.next(4), -1);
    due("where it lay then", x.change(3, 2), 2);
    for (int n : new int[] {-1, 0, 6, FAR[0], FAR[1]}) {
      refuses("time", BOUNDS, y -> y.change(n, 0));
      refuses("time and what", BOUNDS, y -> y.change(n, 3));
    }
    for (int n : new int[] {-1, 3, FAR[0], FAR[1]}) {
      refuses("what", ARGUMENT, y -> y.change(1, n));
    }
  }

  static void promise43() {
    Shardmoor x = new Shardmoor();
    due("now", x.now(), 0);
    x.tick(1);
    due("now", x.now(), 1);
    x.tick(20);
    due("now", x.now(), 21);
    throwsBy("ticks", x, ARGUMENT, y -> y.tick(21));
    due("now", x.now(), 21);
  }

  public static void main(String[] args) {
    promise1();
    promises2To6();
    promise7();
    promise8();
    promise9();
    promise10();
    promise11();
    promise12();
    promise13();
    promises14And15();
    promise16();
    promise17();
    promises18To20();
    promise21();
    plansAreDropped();
    promises22And23();
    promise24();
    promises25To28();
    promise29();
    promise30();
    promise31();
    promise32();
    promises33To35();
    promises36And37();
    promises38And39();
    promise40();
    promises41And42();
    promise43();
    System.out.println(wrong == 0 ? checks + " answers are as due" : wrong + " answers are not as due");
    if (wrong != 0) {
      System.exit(1);
    }
  }
}
