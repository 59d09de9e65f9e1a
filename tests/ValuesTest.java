/**
 * The sentences of ../shared/DOC.md on values, paths and documents that name a boundary case,
 * each with a test of its own. With the document at hand it is also checked that no clause is left out.
 */
public final class ValuesTest extends Kit {

  // ---- What it is

  static void calls() {
    section("What it is");
    saysNoMore("Documents in shards: nested values with an order over all kinds, updates by operators on paths,"
        + " indexes on paths that reach into rows, plans that are tried, kept and dropped, groups, chunks by ranges or"
        + " hashes of a key that split, and move while they are written, routers that learn of maps that changed,"
        + " documents that leave their shard by their own update, sharding anew by another key, a stream of changes"
        + " with tokens, rules for fields, and documents that expire.");
    saysNoMore("what later calls answer is free");
    says("An object is used for at most 512 calls after it has been made");
    manyEntries();
    manyPlans();
    manyMaps();
    manyOrphans();
    Shardmoor x = new Shardmoor();
    for (int i = 1; i < 512; i++) {
      x.tick(20);
    }
    due("now by the 512th call", x.now(), 511 * 20);
  }

  private static void manyEntries() {
    Shardmoor x = new Shardmoor();
    for (int i = 0; i < 170; i++) {
      x.object();
      x.insert(0, i % 100);
      x.remove(0, i % 100);
    }
    due("the 511th call", x.next(339), 340);
    due("the 512th call", x.change(340, 1), 69);
  }

  private static void manyPlans() {
    for (int last : new int[] {0, 1}) {
      Shardmoor x = new Shardmoor();
      for (int i = 0; i < 126; i++) {
        x.nothing();
        x.filter(i % 72, i / 72);
        x.find(0);
        x.clear();
      }
      x.nothing();
      x.filter(last == 0 ? 0 : 53, last);
      x.find(0);
      due("each plan is still kept", x.plan(2), 0);
      due("how many are kept", x.plan(4), 126);
    }
  }

  private static void manyMaps() {
    Shardmoor x = new Shardmoor();
    for (int i = 0; i < 255; i++) {
      x.key(i % 8, false);
      x.find(1);
    }
    due("the version by the 511th call", x.router(1, 0), 256);
    due("how often it was stale by the 512th call", x.router(1, 1), 255);
  }

  private static void manyOrphans() {
    Shardmoor x = new Shardmoor();
    for (int number = 0; number < 60; number++) {
      x.object();
      x.insert(0, number);
    }
    for (int i = 0; i < 78; i++) {
      x.move(0, i % 2 == 0 ? 1 : 0);
      x.copy(20);
      x.copy(20);
      x.copy(20);
      x.handOver();
    }
    due("orphans by the 511th call", x.shard(0, 1), 39 * 60);
    due("orphans by the 512th call", x.clean(1), 39 * 60);
  }

  // ---- Terms

  private static void dueSixty(String what, Shardmoor x) {
    due(what + ": find", x.find(0), 60);
    for (int place = 0; place < 60; place++) {
      due(what + ": found", x.found(place), 40 + place);
    }
    throwsBy(what + ": no more", x, BOUNDS, y -> y.found(60));
    due(what + ": findAnew", x.findAnew(), 60);
  }

  static void foundOnce() {
    section("Terms");
    says("Whatever the plan, shard or move, each document is found once");
    dueSixty("by none", sixty());
    Shardmoor x = sixty();
    x.index(0, true);
    filter(x, 0, 2, "-999");
    dueSixty("by an index", x);
    due("it looked by the index", x.plan(0), 0);
    x = sixty();
    x.move(1, 2);
    x.copy(20);
    dueSixty("while a chunk moves", x);
    x.copy(20);
    x.handOver();
    x.move(1, 0);
    x.copy(20);
    x.copy(20);
    x.handOver();
    dueSixty("with orphans in two shards", x);
    x = sixty();
    x.key(0, true);
    dueSixty("by another key", x);
  }

  /** The times that a stream tells behind a token. */
  private static String behind(Shardmoor x, int token) {
    StringBuilder times = new StringBuilder();
    int time = x.next(token);
    for (int i = 0; i < 100 && time != -1; i++) {
      times.append(time).append(' ');
      time = x.next(time);
    }
    return times.toString();
  }

  static void streamResumed() {
    says("a stream that is resumed leaves out and doubles nothing");
    Shardmoor x = with("{0:1}", "{0:400}", "{0:800}");
    update(x, 0, 0, SET, "500");
    x.remove(0, 1);
    String[] rest = {"1 2 3 4 5 ", "2 3 4 5 ", "3 4 5 ", "4 5 ", "5 ", "", ""};
    for (int token = 0; token < rest.length; token++) {
      dueText("behind " + token, behind(x, token), rest[token]);
    }
    x.move(2, 0);
    x.copy(20);
    x.handOver();
    dueText("behind 5 when a chunk has moved", behind(x, 5), "");
    insert(x, 9, "{}");
    x.expire(0);
    update(x, 9, 0, SET, "1");
    x.tick(1);
    dueText("behind 5 when there is more", behind(x, 5), "6 7 8 ");
    dueText("behind 4", behind(x, 4), "5 6 7 8 ");
  }

  // ---- values, paths

  static void values() {
    saysNoMore("Values, paths");
    says("A value is nothing, a number, -999 to 999, a word, 0 to 99, a row of values, or an object with some of the"
        + " fields 0 to 7, each with a value.");
    for (String value : new String[] {"_", "-999", "-1", "0", "999", "w0", "w99", "[]", "{}", "[_,-999,999,w0,w99,[],{}]",
        "{0:_,1:-999,2:999,3:w0,4:w99,5:[],6:{},7:1}", "{0:{7:{0:[[{7:w9}]]}}}"}) {
      Shardmoor x = with("{6:" + value + "}");
      due("print of " + value, x.print(0), printOf("{6:" + value + "}"));
    }
    for (Maker state : ALL) {
      refuses("number -1000", ARGUMENT, state, x -> x.number(-1000));
      refuses("number 1000", ARGUMENT, state, x -> x.number(1000));
      refuses("word -1", ARGUMENT, state, x -> x.word(-1));
      refuses("word 100", ARGUMENT, state, x -> x.word(100));
      refuses("field -1", ARGUMENT, state, x -> x.give(-1));
      refuses("field 8", ARGUMENT, state, x -> x.give(8));
    }
    says("Values are told on a pile of at most 10");
    Shardmoor x = new Shardmoor();
    for (int i = 1; i <= 10; i++) {
      due("the pile", i % 3 == 0 ? x.row() : i % 3 == 1 ? x.number(i) : x.object(), i);
    }
    for (Maker state : new Maker[] {Kit::fullPile, FULL}) {
      refuses("an eleventh", STATE, state, y -> y.nothing());
      refuses("an eleventh", STATE, state, y -> y.number(1));
      refuses("an eleventh", STATE, state, y -> y.word(1));
      refuses("an eleventh", STATE, state, y -> y.row());
      refuses("an eleventh", STATE, state, y -> y.object());
    }
    says("each with at most 24 parts, itself and all in it");
    parts("[]", x1 -> x1.add());
    parts("{}", x1 -> x1.give(0));
    parts("{0:[1],1:{5:[]}}", x1 -> x1.give(7));
    parts("[[],{},[[[{7:_}]]]]", x1 -> x1.add());
  }

  /** To a value others are given that make it one of 24 parts, and of one more. */
  private static void parts(String value, Call give) {
    Shardmoor told = with("{0:" + value + "}");
    int parts = told.document(0, 2) - 1;
    for (String more : new String[] {"[", "{0:["}) {
      int room = 24 - parts - (more.length() > 1 ? 2 : 1);
      String end = more.length() > 1 ? "}" : "";
      String largest = more + row(1, room, "").substring(1) + end;
      String larger = more + row(1, room + 1, "").substring(1) + end;
      Maker state = () -> {
        Shardmoor x = new Shardmoor();
        tell(x, value);
        tell(x, largest);
        return x;
      };
      due(value + " with " + largest, give.on(state.make()), 1);
      refuses(value + " with " + larger, STATE, () -> {
        Shardmoor x = new Shardmoor();
        tell(x, value);
        tell(x, larger);
        return x;
      }, give);
    }
  }

  /** Values in order, told from the last to the first. */
  private static void dueOrder(String... values) {
    Shardmoor x = new Shardmoor();
    for (int i = 0; i < values.length; i++) {
      insert(x, i, "{1:" + values[values.length - 1 - i] + "}");
    }
    x.find(0);
    due("groups", x.group(1, 0), values.length);
    for (int i = 0; i < values.length; i++) {
      due("the value in the place " + i + ", " + values[i], x.grouped(i, 0), printOf(values[i]));
      due("times of it", x.grouped(i, 1), 1);
    }
  }

  static void order() {
    says("Values are ordered: nothing, numbers by size, words by size, rows place by place, one that is over earlier"
        + " first, objects");
    dueOrder("_", "-999", "-998", "-1", "0", "1", "998", "999", "w0", "w1", "w98", "w99", "{}");
    dueOrder("{3:_}", "{3:-999}", "{3:999}", "{3:w0}", "{3:w99}", "{3:[]}", "{3:[_]}", "{3:{}}");
    dueOrder("{0:[]}", "{0:[_]}", "{0:[_,_]}", "{0:[_,-999]}", "{0:[-1]}", "{0:[0]}", "{0:[0,5]}", "{0:[0,5,_]}",
        "{0:[0,6]}", "{0:[1]}", "{0:[w0]}", "{0:[[]]}", "{0:[[],0]}", "{0:[[_]]}", "{0:[[_],_]}", "{0:[[w9]]}", "{0:[{}]}",
        "{0:[{},{}]}", "{0:[{0:_}]}");
    says("their fields by rising numbers, field by field");
    dueOrder("{0:1,1:2}", "{0:2,1:1}", "{1:0,2:0}");
    dueOrder("{6:1,7:1}", "{6:1,7:2}", "{6:2,7:0}");
    says("the lower field first, then the values");
    dueOrder("{0:{}}", "{1:_}", "{1:{}}", "{2:_}", "{6:w99}", "{7:_}", "{7:-999}");
    dueOrder("{0:_,1:w5}", "{0:_,2:_}", "{0:_,7:_}", "{0:1,1:_}");
    says("one that is over earlier first");
    dueOrder("{}", "{0:_}", "{0:_,7:_}", "{0:{}}", "{0:{0:1}}", "{0:{0:1},1:0}", "{0:{0:1},7:{}}", "{0:{0:1,1:0}}", "{7:_}");
    dueOrder("{0:[1]}", "{0:[1],1:_}", "{0:[1,_]}");
    says("Two are the same if none is ahead.");
    Shardmoor x = with("{1:{3:1,1:[2]}}", "{1:{1:[2],3:1}}", "{1:{1:[3]}}");
    tell(x, "{3:w9,1:[2]}");
    x.number(1);
    x.give(3);
    due("set to the same", x.update(0, 0, 1, SET) ? 1 : 0, 0);
    due("prints", x.print(0) == x.print(1), true);
    x.index(1, true);
    due("one entry of each", x.entries(0), 3);
    filter(x, 1, 0, "{1:[2],3:1}");
    dueText("the same", foundBy(x), "0 1");
    due("one group", x.group(1, 0), 1);
    due("had twice", x.grouped(0, 1), 2);
    String[] others = {"_", "0", "w0", "[]", "{}", "1", "w1", "[0]", "[_]", "{0:0}", "{1:0}", "[1,2]", "[2,1]", "[1]",
        "[[1]]", "[[]]", "[{}]", "{0:_}", "{0:{}}", "{0:[]}", "{0:1,1:1}", "{0:1}", "-1"};
    for (int i = 0; i < others.length; i++) {
      updates("{5:[" + others[i] + "]}", 5, PULL, others[i], "{5:[]}");
      String next = others[(i + 1) % others.length];
      updates("{5:[" + others[i] + "]}", 5, PULL, next, "{5:[" + others[i] + "]}");
      updates("{5:" + others[i] + "}", 5, SET, next, "{5:" + next + "}");
      updates("{5:" + others[i] + "}", 5, SET, others[i], "{5:" + others[i] + "}");
    }
  }

  static void paths() {
    says("A path is a field, 0 to 7, or two: 8, and 8 times the first one, and the second one, together (8 to 71).");
    for (int first = 0; first < 8; first++) {
      for (int second = 0; second < 8; second++) {
        Shardmoor x = with("{" + first + ":{" + second + ":7}}");
        for (int path = 0; path < 72; path++) {
          boolean isHad = path == first || path == 8 + 8 * first + second;
          filter(x, path, 3, "_");
          due("something at " + path, x.find(0), isHad ? 1 : 0);
          x.clear();
        }
        updates("{}", 8 + 8 * first + second, ADD, "7", "{" + first + ":{" + second + ":7}}");
      }
      updates("{}", first, ADD, "7", "{" + first + ":7}");
    }
    for (Maker state : new Maker[] {FRESH, RICH}) {
      refuses("index at -1", ARGUMENT, state, x -> x.index(-1, true));
      refuses("index at 72", ARGUMENT, state, x -> x.index(72, true));
      refuses("filter at -1", ARGUMENT, state, x -> x.filter(-1, 0));
      refuses("filter at 72", ARGUMENT, state, x -> x.filter(72, 0));
      refuses("group at -1", ARGUMENT, state, x -> x.group(-1, 0));
      refuses("group at 72", ARGUMENT, state, x -> x.group(0, 72));
    }
    refuses("update at -1", ARGUMENT, x -> x.update(0, 3, -1, UNSET) ? 1 : 0);
    refuses("update at 72", ARGUMENT, x -> x.update(0, 3, 72, UNSET) ? 1 : 0);
  }

  /** What a document has at a path: all values, those that it has twice told twice. */
  private static void dueHas(String document, int path, String... values) {
    java.util.Map<String, Integer> times = new java.util.TreeMap<>();
    long sum = 0;
    for (String value : values) {
      times.merge(value, 1, Integer::sum);
      sum += value.matches("-?\\d+") ? Integer.parseInt(value) : 0;
    }
    Shardmoor x = with(document);
    String what = document + " at " + path;
    x.index(path, true);
    due("sparse entries of " + what, x.entries(0), times.size());
    x.dropIndex(0);
    x.index(path, false);
    due("entries of " + what, x.entries(0), Math.max(1, times.size()));
    x.find(0);
    int groups = 0;
    for (String value : times.keySet()) {
      groups += value.startsWith("[") ? 0 : 1;
    }
    due("groups of " + what, x.group(path, path), groups);
    for (int i = 0; i < groups; i++) {
      int had = 0;
      for (java.util.Map.Entry<String, Integer> value : times.entrySet()) {
        had += printOf(value.getKey()) == x.grouped(i, 0) ? value.getValue() : 0;
      }
      due("times of the group " + i + " of " + what, x.grouped(i, 1), had);
      due("sum of the group " + i + " of " + what, x.grouped(i, 2), had * sum);
    }
    for (String value : new String[] {"_", "1", "2", "-3", "w1", "[]", "[1]", "[2]", "[1,2]", "{}", "{0:1}", "{1:1}", "{0:[1]}"}) {
      filter(x, path, 0, value);
      due(value + " is of " + what, x.find(0), times.containsKey(value) ? 1 : 0);
      x.clear();
    }
    filter(x, path, 3, "_");
    due("something of " + what, x.find(0), times.isEmpty() ? 0 : 1);
  }

  static void atPaths() {
    says("What a document has at a path are");
    dueHas("{}", 0);
    dueHas("{}", 8);
    dueHas("{}", 71);
    says("of one field its value, if it has it");
    dueHas("{0:1}", 0, "1");
    dueHas("{7:_}", 7, "_");
    dueHas("{1:{0:1}}", 1, "{0:1}");
    dueHas("{1:1,3:1}", 2);
    says("of two");
    dueHas("{0:1}", 8);
    dueHas("{0:_}", 8);
    dueHas("{0:w1}", 8);
    says("if the first one's value is an object, what that has at the second");
    dueHas("{0:{0:2}}", 8, "2");
    dueHas("{7:{7:{1:1}}}", 71, "{1:1}");
    dueHas("{0:{}}", 8);
    dueHas("{0:{1:2}}", 8);
    dueHas("{0:{1:{0:2}}}", 8);
    dueHas("{1:{0:2},0:1}", 8);
    says("if it is a row, what each object that is a part of the row has there, in order");
    dueHas("{0:[]}", 8);
    dueHas("{0:[{}]}", 8);
    dueHas("{0:[{0:2}]}", 8, "2");
    dueHas("{0:[{0:2},1,{0:2},{1:1},w1,_,{0:1},{0:_}]}", 8, "2", "2", "1", "_");
    dueHas("{0:[[{0:2}],{0:1}]}", 8, "1");
    dueHas("{0:[{1:{0:2}},{1:[{0:1}]}]}", 8);
    dueHas("{7:[{6:1,7:2},{7:-3}]}", 71, "2", "-3");
    says("Besides, behind each of these that is a row, the parts of that, in order.");
    dueHas("{1:[]}", 1, "[]");
    dueHas("{1:[1]}", 1, "[1]", "1");
    dueHas("{1:[2,2]}", 1, "[2,2]", "2", "2");
    dueHas("{1:[1,[1],[],{0:1},_]}", 1, "[1,[1],[],{0:1},_]", "1", "[1]", "[]", "{0:1}", "_");
    dueHas("{1:[[[1]]]}", 1, "[[[1]]]", "[[1]]");
    dueHas("{1:{1:[1,2]}}", 17, "[1,2]", "1", "2");
    dueHas("{1:[{1:[1,2]},{1:1},{1:[[2]]},{1:[]},[1]]}", 17, "[1,2]", "1", "2", "1", "[[2]]", "[2]", "[]");
    dueHas("{1:{0:[1]}}", 1, "{0:[1]}");
    dueHas("{1:" + row(1, 22, "") + "}", 1, rowAndParts(22));
  }

  /** The row of the numbers from 1 to another one, and these. */
  private static String[] rowAndParts(int last) {
    String[] values = new String[last + 1];
    values[0] = row(1, last, "");
    for (int i = 1; i <= last; i++) {
      values[i] = "" + i;
    }
    return values;
  }

  // ---- Documents

  static void documents() {
    section("Documents");
    says("A document is an object with a number, 0 to 99, no two with the same");
    Shardmoor x = new Shardmoor();
    for (int number = 99; number >= 0; number--) {
      due("insert", insert(x, number, "{}"), 0);
      due("documents", x.documents(), 1);
      x.remove(0, number);
    }
    for (String value : new String[] {"_", "1", "w1", "[]", "[{}]"}) {
      refuses("insert of " + value, STATE, () -> {
        Shardmoor y = new Shardmoor();
        tell(y, value);
        return y;
      }, y -> y.insert(0, 0));
    }
    for (int number : new int[] {-1, 100}) {
      refuses("insert of " + number, ARGUMENT, y -> y.insert(0, number));
    }
    for (int number : new int[] {3, 4, 5, 6, 7}) {
      refuses("insert of " + number, STATE, y -> y.insert(1, number));
    }
    says("there are at most 60");
    x = new Shardmoor();
    for (int i = 0; i < 60; i++) {
      insert(x, 99 - i, "{}");
    }
    due("documents", x.documents(), 60);
    x.object();
    throwsBy("a 61st", x, STATE, y -> y.insert(0, 0));
    due("another is updated", update(x, 40, 1, SET, "1"), 1);
    x.remove(0, 50);
    due("in place of one", x.insert(0, 0), 0);
    x.object();
    throwsBy("a 61st", x, STATE, y -> y.insert(0, 50));
    refuses("a 61st", STATE, () -> {
      Shardmoor y = full();
      y.drop();
      y.object();
      return y;
    }, y -> y.insert(1, 70));
  }

  static void rules() {
    says("Rules: for a field a kind can be needed: 1 number, 2 word, 3 row, 4 object");
    String[][] values = {{"_"}, {"0", "-999", "999"}, {"w0", "w99"}, {"[]", "[_]", "[1]"}, {"{}", "{3:1}"}};
    for (int needed = 0; needed <= 4; needed++) {
      for (int kind = 0; kind <= 4; kind++) {
        for (String value : values[kind]) {
          dueRule(needed, "{3:" + value + "}", needed == 0 || needed == kind);
        }
      }
      dueRule(needed, "{}", needed == 0);
      dueRule(needed, "{2:5,4:w5,5:[],6:{3:1},7:{3:w1}}", needed == 0);
    }
    says("then each document that is told or changed has that field with that kind");
    Shardmoor x = new Shardmoor();
    x.rule(0, 1);
    x.rule(7, 3);
    due("both kept", insert(x, 1, "{0:1,7:[]}"), 0);
    due("set to the kind", update(x, 1, 0, SET, "2"), 1);
    due("set to the kind", update(x, 1, 7, SET, "[1]"), 1);
    due("another field", update(x, 1, 3, SET, "_"), 1);
    Maker state = () -> {
      Shardmoor y = new Shardmoor();
      y.rule(0, 1);
      y.rule(7, 3);
      insert(y, 4, "{0:1,7:[]}");
      tell(y, "{0:1}");
      return y;
    };
    refuses("unset", STATE, state, y -> y.update(0, 4, 0, UNSET) ? 1 : 0);
    refuses("unset", STATE, state, y -> y.update(0, 4, 7, UNSET) ? 1 : 0);
    refuses("set", STATE, state, y -> y.update(0, 4, 0, SET) ? 1 : 0);
    refuses("set", STATE, state, y -> y.update(0, 4, 7, SET) ? 1 : 0);
    refuses("one of two", STATE, state, y -> y.insert(0, 5));
    updatesByRule(4, "{2:{}}", 25, UNSET, "", 0L);
    updatesByRule(4, "{2:{}}", 25, PUSH, "1", 1L);
    updatesByRule(3, "{2:[1]}", 2, PULL, "1", 1L);
    updatesByRule(1, "{2:1}", 2, ADD, "1", 1L);
    updatesByRule(1, "{2:1}", 2, UNSET, "", STATE);
  }

  /** A document is told, or is there when the rule is made. */
  private static void dueRule(int kind, String document, boolean isKept) {
    Maker told = () -> {
      Shardmoor x = new Shardmoor();
      x.rule(3, kind);
      tell(x, document);
      return x;
    };
    Maker ahead = () -> with(document);
    Maker changed = () -> {
      Shardmoor x = new Shardmoor();
      x.rule(3, kind);
      String[] kept = {"{}", "{3:9}", "{3:w9}", "{3:[9]}", "{3:{7:9}}"};
      insert(x, 4, kept[kind]);
      return x;
    };
    String value = document.startsWith("{3:") ? document.substring(3, document.length() - 1) : "";
    Call change = x -> update(x, 4, 3, value.isEmpty() ? UNSET : SET, value);
    String what = document + " by the rule " + kind;
    if (isKept) {
      due(what, told.make().insert(0, 4), 0);
      due(what, ahead.make().rule(3, kind), 0);
      due(what + " when changed", answer(changed.make(), change) == STATE, false);
      return;
    }
    refuses(what, STATE, told, x -> x.insert(0, 4));
    refuses(what, STATE, ahead, x -> x.rule(3, kind));
    throwsBy(what + " when changed", changed.make(), STATE, change);
  }

  /** An update of a document that keeps a rule for its field 2. */
  private static void updatesByRule(int kind, String document, int path, int operator, String value, Object want) {
    Shardmoor x = with(document);
    x.rule(2, kind);
    Object got = answer(x, y -> update(y, 0, path, operator, value));
    due("by the rule " + kind + " " + document + " at " + path + " by " + operator + " is " + want, got.equals(want), true);
  }

  static void operators() {
    says("To update a document at a path by an operator, with the top value of the pile, that is taken");
    for (int operator : new int[] {SET, ADD, PUSH, PULL, EACH}) {
      Shardmoor x = with("{1:" + (operator == ADD ? "1" : "[1]") + "}");
      tell(x, "w7");
      tell(x, "1");
      x.update(0, 0, 1, operator);
      due("one value is left", x.word(1), 2);
      x.drop();
      refuses("an empty pile", STATE, () -> with("{1:[1],2:2}"), y -> y.update(0, 0, operator == ADD ? 2 : 1, operator) ? 1 : 0);
    }
    says("0 SET: that is the value there");
    updates("{}", 0, SET, "_", "{0:_}");
    updates("{}", 7, SET, "[]", "{7:[]}");
    updates("{0:1,7:{0:[1]}}", 7, SET, "-999", "{0:1,7:-999}");
    updates("{0:[1],1:1}", 0, SET, "{0:[1]}", "{0:{0:[1]},1:1}");
    updates("{0:{0:1,7:2}}", 15, SET, "w0", "{0:{0:1,7:w0}}");
    updates("{7:{}}", 64, SET, "w0", "{7:{0:w0}}");
    says("1 UNSET: there is none there (nothing is taken)");
    updates("{0:1}", 0, UNSET, "", "{}");
    updates("{0:1}", 0, UNSET, "5", "{}");
    updates("{0:1,3:[{0:1},2],7:2}", 3, UNSET, "w5", "{0:1,7:2}");
    updates("{0:{0:1}}", 8, UNSET, "", "{0:{}}");
    updates("{0:{0:1,1:2},1:3}", 9, UNSET, "", "{0:{0:1},1:3}");
    Shardmoor full = new Shardmoor();
    insert(full, 0, "{0:5}");
    for (int i = 0; i < 10; i++) {
      full.row();
    }
    due("with a full pile", full.update(0, 0, 0, UNSET), true);
    due("it is full still", full.drop(), 10);
  }

  static void sums() {
    says("2 ADD: a number is added to the number there, 0 if it is missing");
    updates("{0:1}", 0, ADD, "1", "{0:2}");
    updates("{0:1}", 0, ADD, "0", "{0:1}");
    updates("{7:-5}", 7, ADD, "5", "{7:0}");
    updates("{}", 7, ADD, "-999", "{7:-999}");
    updates("{}", 7, ADD, "999", "{7:999}");
    updates("{}", 0, ADD, "0", "{0:0}");
    updates("{1:{}}", 19, ADD, "4", "{1:{3:4}}");
    updates("{1:{3:4}}", 19, ADD, "4", "{1:{3:8}}");
    for (String other : new String[] {"_", "w1", "[]", "[1]", "{}"}) {
      refusesUpdate("{0:1}", 0, ADD, other);
      refusesUpdate("{}", 0, ADD, other);
      refusesUpdate("{0:" + other + "}", 0, ADD, "1");
      refusesUpdate("{1:{3:" + other + "}}", 19, ADD, "1");
    }
    says("the sum has to be -999 to 999");
    updates("{0:998}", 0, ADD, "1", "{0:999}");
    refusesUpdate("{0:998}", 0, ADD, "2");
    refusesUpdate("{0:999}", 0, ADD, "1");
    refusesUpdate("{0:1}", 0, ADD, "999");
    refusesUpdate("{0:999}", 0, ADD, "999");
    updates("{0:-998}", 0, ADD, "-1", "{0:-999}");
    refusesUpdate("{0:-998}", 0, ADD, "-2");
    refusesUpdate("{0:-999}", 0, ADD, "-1");
    refusesUpdate("{0:-1}", 0, ADD, "-999");
    refusesUpdate("{0:-999}", 0, ADD, "-999");
    updates("{0:-999}", 0, ADD, "999", "{0:0}");
    updates("{0:999}", 0, ADD, "-999", "{0:0}");
    refusesUpdate("{1:{3:500}}", 19, ADD, "500");
  }

  static void rows() {
    says("3 PUSH: it is put behind the row there, an empty one if it is missing");
    updates("{}", 0, PUSH, "1", "{0:[1]}");
    updates("{}", 7, PUSH, "[]", "{7:[[]]}");
    updates("{7:[]}", 7, PUSH, "_", "{7:[_]}");
    updates("{7:[3,2]}", 7, PUSH, "1", "{7:[3,2,1]}");
    updates("{3:[[1]],4:1}", 3, PUSH, "[1]", "{3:[[1],[1]],4:1}");
    updates("{3:{4:[5]}}", 36, PUSH, "{}", "{3:{4:[5,{}]}}");
    for (String other : new String[] {"_", "1", "w1", "{}"}) {
      refusesUpdate("{0:" + other + "}", 0, PUSH, "1");
      refusesUpdate("{3:{4:" + other + "}}", 36, PUSH, "1");
    }
    says("4 PULL: all parts of the row there that are the same are taken out");
    updates("{0:[1]}", 0, PULL, "1", "{0:[]}");
    updates("{0:[1,1,1]}", 0, PULL, "1", "{0:[]}");
    updates("{0:[2,1,3,1,1,4]}", 0, PULL, "1", "{0:[2,3,4]}");
    updates("{0:[1,2,1]}", 0, PULL, "1", "{0:[2]}");
    updates("{0:[]}", 0, PULL, "1", "{0:[]}");
    updates("{0:[w1,_,[1],{1:1}]}", 0, PULL, "1", "{0:[w1,_,[1],{1:1}]}");
    updates("{0:[[1,2],[1],[1,2]]}", 0, PULL, "[1,2]", "{0:[[1]]}");
    updates("{0:[{0:1},{0:1,1:1},{0:1}]}", 0, PULL, "{0:1}", "{0:[{0:1,1:1}]}");
    updates("{0:[_,_,1]}", 0, PULL, "_", "{0:[1]}");
    updates("{3:{4:[5,6]}}", 36, PULL, "6", "{3:{4:[5]}}");
    updates("{0:" + row(1, 22, "") + "}", 0, PULL, "22", "{0:" + row(1, 21, "") + "}");
    String same = "[7,7,7,7,7,7,7,7,7,7,7,7,7,7,7,7,7,7,7,7,7,7]";
    updates("{0:" + same + "}", 0, PULL, "7", "{0:[]}");
    for (String other : new String[] {"_", "1", "w1", "{}"}) {
      refusesUpdate("{0:" + other + "}", 0, PULL, "1");
      refusesUpdate("{3:{4:" + other + "}}", 36, PULL, "1");
    }
    each();
  }

  private static void each() {
    says("5 EACH: a number is added to all parts of the row there that are numbers, likewise");
    updates("{0:[1]}", 0, EACH, "1", "{0:[2]}");
    updates("{0:[]}", 0, EACH, "1", "{0:[]}");
    updates("{0:[1,w1,_,[1],{0:1},-1]}", 0, EACH, "5", "{0:[6,w1,_,[1],{0:1},4]}");
    updates("{0:[1,2]}", 0, EACH, "0", "{0:[1,2]}");
    updates("{0:" + row(1, 22, "") + "}", 0, EACH, "1", "{0:" + row(2, 23, "") + "}");
    updates("{3:{4:[5]}}", 36, EACH, "-6", "{3:{4:[-1]}}");
    updates("{0:[998,-999]}", 0, EACH, "1", "{0:[999,-998]}");
    updates("{0:[-998,999]}", 0, EACH, "-1", "{0:[-999,998]}");
    refusesUpdate("{0:[998]}", 0, EACH, "2");
    refusesUpdate("{0:[1,2,999]}", 0, EACH, "1");
    refusesUpdate("{0:[999,1]}", 0, EACH, "1");
    refusesUpdate("{0:[1,-998]}", 0, EACH, "-2");
    refusesUpdate("{0:" + row(980, 999, ",5,6") + "}", 0, EACH, "1");
    for (String other : new String[] {"_", "w1", "[1]", "{}"}) {
      refusesUpdate("{0:[1]}", 0, EACH, other);
      refusesUpdate("{0:[]}", 0, EACH, other);
    }
    for (String other : new String[] {"_", "1", "w1", "{}"}) {
      refusesUpdate("{0:" + other + "}", 0, EACH, "1");
      refusesUpdate("{3:{4:" + other + "}}", 36, EACH, "1");
    }
  }

  static void twoFields() {
    says("With two fields the first one has to have an object, or be missing");
    for (String other : new String[] {"_", "1", "w1", "[]", "[{0:[1]}]"}) {
      refusesUpdate("{0:" + other + "}", 8, SET, "1");
      refusesUpdate("{0:" + other + "}", 8, UNSET, "");
      refusesUpdate("{0:" + other + "}", 8, ADD, "1");
      refusesUpdate("{0:" + other + "}", 8, PUSH, "1");
      refusesUpdate("{0:" + other + "}", 8, PULL, "1");
      refusesUpdate("{0:" + other + "}", 8, EACH, "1");
    }
    says("then SET, ADD and PUSH make it one");
    updates("{}", 8, SET, "1", "{0:{0:1}}");
    updates("{}", 71, SET, "{}", "{7:{7:{}}}");
    updates("{0:1,2:1}", 17, ADD, "1", "{0:1,1:{1:1},2:1}");
    updates("{0:1,2:1}", 18, PUSH, "1", "{0:1,1:{2:[1]},2:1}");
    refusesUpdate("{}", 8, ADD, "w1");
    says("UNSET, PULL and EACH of what is missing change nothing");
    for (String before : new String[] {"{}", "{1:1,3:1}"}) {
      updates(before, 2, UNSET, "", before);
      updates(before, 2, UNSET, "1", before);
      updates(before, 2, PULL, "1", before);
      updates(before, 2, EACH, "1", before);
      updates(before, 25, UNSET, "", before);
      updates(before, 25, PULL, "1", before);
      updates(before, 25, EACH, "1", before);
    }
    updates("{2:{0:[1]}}", 25, UNSET, "", "{2:{0:[1]}}");
    updates("{2:{0:[1]}}", 25, PULL, "1", "{2:{0:[1]}}");
    updates("{2:{0:[1]}}", 25, EACH, "1", "{2:{0:[1]}}");
    says("the top value of EACH has to be a number all the same, and is taken, as that of PULL");
    for (String other : new String[] {"_", "w1", "[1]", "{}"}) {
      refusesUpdate("{}", 2, EACH, other);
      refusesUpdate("{}", 25, EACH, other);
      refusesUpdate("{2:{0:[1]}}", 25, EACH, other);
      updates("{}", 2, PULL, other, "{}");
      updates("{}", 25, PULL, other, "{}");
    }
    refusesUpdate("{}", 2, EACH, "");
    refusesUpdate("{}", 25, PULL, "");
  }

  static void manyParts() {
    says("A document may have at most 24 parts.");
    for (int path : new int[] {1, 7}) {
      String after = "{0:" + row(1, 20, "") + "," + path + ":";
      String before = "{0:" + row(1, 20, "") + "}";
      updates(before, path, SET, "[1]", after + "[1]}");
      refusesUpdate(before, path, SET, "[1,2]");
      updates(before, path, PUSH, "1", after + "[1]}");
      refusesUpdate(before, path, PUSH, "[1]");
      updates(before, 8 + 8 * path, SET, "1", after + "{0:1}}");
      refusesUpdate(before, 8 + 8 * path, SET, "[1]");
      updates(before, 8 + 8 * path, ADD, "1", after + "{0:1}}");
      refusesUpdate(before, 8 + 8 * path, PUSH, "1");
    }
    String larger = "{0:" + row(1, 21, "") + "}";
    updates(larger, 1, SET, "1", "{0:" + row(1, 21, "") + ",1:1}");
    updates(larger, 1, ADD, "1", "{0:" + row(1, 21, "") + ",1:1}");
    refusesUpdate(larger, 8 + 8, ADD, "1");
    updates(larger, 0, PUSH, "1", "{0:" + row(1, 21, ",1") + "}");
    refusesUpdate(larger, 0, PUSH, "[1]");
    String largest = "{0:" + row(1, 22, "") + "}";
    refusesUpdate(largest, 1, SET, "1");
    refusesUpdate(largest, 1, ADD, "1");
    refusesUpdate(largest, 1, PUSH, "1");
    refusesUpdate(largest, 0, PUSH, "1");
    updates(largest, 0, SET, row(2, 23, ""), "{0:" + row(2, 23, "") + "}");
    refusesUpdate(largest, 0, SET, row(1, 22, ",23"));
    updates(largest, 0, UNSET, "", "{}");
    updates(largest, 1, UNSET, "", largest);
    updates(largest, 0, PULL, "1", "{0:" + row(2, 22, "") + "}");
    updates("{}", 0, SET, row(1, 22, ""), largest);
    refusesUpdate("{}", 0, SET, row(1, 23, ""));
    refusesUpdate("{}", 8, SET, row(1, 22, ""));
    updates("{}", 8, SET, row(1, 21, ""), "{0:{0:" + row(1, 21, "") + "}}");
    refusesUpdate("{0:{}}", 8, PUSH, row(1, 21, ""));
    updates("{0:{}}", 8, PUSH, row(1, 20, ""), "{0:{0:[" + row(1, 20, "") + "]}}");
    refusesUpdate(largest, 0, SET, largest);
  }

  public static void main(String[] args) {
    calls();
    foundOnce();
    streamResumed();
    values();
    order();
    paths();
    atPaths();
    documents();
    rules();
    operators();
    sums();
    rows();
    twoFields();
    manyParts();
    end();
  }
}
