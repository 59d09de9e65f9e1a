/**
 * Each promise of ../shared/DOC.md, sentence by sentence: what a call does and returns, its arguments at their bounds and
 * beyond, and each reason for which it throws. With the document at hand it is checked that no sentence is left out.
 */
public final class PromiseTest extends Kit {

  // ---- the pile

  static void promise1() {
    section("Promise 1");
    says("No documents, rules and indexes");
    Shardmoor x = new Shardmoor();
    due("documents", x.documents(), 0);
    for (int number = 0; number < 100; number++) {
      due("document", x.document(number, 0), -1);
    }
    for (int field = 0; field < 8; field++) {
      due("rule", x.rule(field, 0), 0);
    }
    for (int index = 0; index < 3; index++) {
      int place = index;
      throwsBy("entries", x, BOUNDS, y -> y.entries(place));
    }
    due("pile", x.drop(), 0);
    due("filters", x.clear(), 0);
    due("expiring field", x.expire(-1), -1);
    due("now", x.now(), 0);
    due("entries of the stream", x.next(FAR[0]), -1);
    duePlan("no query yet", x, -1, 0, 0, 0, 0);
    throwsBy("found", x, BOUNDS, y -> y.found(0));
    throwsBy("grouped", x, BOUNDS, y -> y.grouped(0, 0));
    dueShards("at first", x, 0, 0, 0, 0, 0, 0, 0, 0, 0);
    throwsBy("no move", x, STATE, y -> y.giveUp());
    says("the field 0 as key, not hashed.");
    insert(x, 0, "{0:7,1:8}");
    due("key", x.document(0, 1), 7);
  }

  /** A call that puts a value on the pile. */
  private static void puts(String sentence, String value, Call put) {
    says(sentence);
    Shardmoor x = new Shardmoor();
    x.object();
    x.object();
    put.on(x);
    due("give", x.give(5), 2);
    due("give", x.give(0), 1);
    x.insert(0, 1);
    due("print", x.print(1), printOf("{0:{5:" + value + "}}"));
    says("Returns how many values it has then.");
    for (int i = 1; i <= 10; i++) {
      due("values", put.on(x), i);
    }
    due("values", x.drop(), 10);
    due("values", put.on(x), 1);
    says("Throws IllegalStateException if it has 10");
    for (int i = 2; i <= 10; i++) {
      due("values", answer(x, put).equals((long) i), true);
    }
    throwsBy("an eleventh", x, STATE, put);
    refuses("an eleventh", STATE, Kit::fullPile, put);
    refuses("an eleventh", STATE, FULL, put);
  }

  static void promises2To6() {
    section("Promise 2");
    puts("Puts nothing, as a value, on the pile.", "_", x -> x.nothing());
    section("Promise 3");
    for (int number : new int[] {-999, -1, 0, 1, 999}) {
      puts("Puts a number on the pile.", "" + number, x -> x.number(number));
    }
    says("- number: -999 to 999");
    range(-999, 999, ARGUMENT, (x, number) -> x.number(number), ALL);
    says("Throws IllegalArgumentException if number is out of range");
    range(-999, 999, ARGUMENT, (x, number) -> x.number(number), Kit::fullPile);
    section("Promise 4");
    for (int word : new int[] {0, 1, 98, 99}) {
      puts("Puts a word on the pile.", "w" + word, x -> x.word(word));
    }
    says("- word: 0 to 99");
    range(0, 99, ARGUMENT, (x, word) -> x.word(word), ALL);
    says("Throws IllegalArgumentException if word is out of range");
    range(0, 99, ARGUMENT, (x, word) -> x.word(word), Kit::fullPile);
    section("Promise 5");
    puts("Puts an empty row on the pile.", "[]", x -> x.row());
    section("Promise 6");
    puts("Puts an empty object on the pile.", "{}", x -> x.object());
  }

  /** The values of a pile, from the lowest. */
  private static Maker pile(String... values) {
    return () -> {
      Shardmoor x = new Shardmoor();
      for (String value : values) {
        tell(x, value);
      }
      return x;
    };
  }

  static void promise7() {
    section("Promise 7");
    says("Takes the top value, and puts it behind the row below it.");
    for (String value : new String[] {"_", "-999", "w99", "[]", "[1,[2]]", "{}", "{0:[1],7:{}}"}) {
      for (String before : new String[] {"[]", "[1]", "[[],{}]"}) {
        Shardmoor x = pile("{}", before, value).make();
        x.add();
        x.give(3);
        x.insert(0, 0);
        String after = before.substring(0, before.length() - 1) + (before.length() > 2 ? "," : "") + value + "]";
        due(value + " behind " + before, x.print(0), printOf("{3:" + after + "}"));
        due("nothing is left", x.drop(), 0);
      }
    }
    says("Returns how many values the pile has then.");
    due("of two", pile("[]", "1").make().add(), 1);
    due("of three", pile("_", "[]", "1").make().add(), 2);
    due("of ten", fullPile().add(), 9);
    Shardmoor rows = fullPile();
    for (int left = 9; left >= 1; left--) {
      due("a row in a row", rows.add(), left);
    }
    says("Throws IllegalStateException if there are not two, the lower one is no row, or it would have more than 24"
        + " parts");
    refuses("an empty pile", STATE, FRESH, x -> x.add());
    refuses("one value", STATE, pile("[]"), x -> x.add());
    for (String lower : new String[] {"_", "1", "w1", "{}", "{0:[]}"}) {
      refuses("behind " + lower, STATE, pile("[]", lower, "[]"), x -> x.add());
    }
    due("24 parts", pile(row(1, 22, ""), "1").make().add(), 1);
    refuses("25 parts", STATE, pile(row(1, 23, ""), "1"), x -> x.add());
    due("24 parts", pile("[]", row(1, 22, "")).make().add(), 1);
    refuses("25 parts", STATE, pile("[]", row(1, 23, "")), x -> x.add());
    due("24 parts", pile(row(1, 11, ""), row(1, 11, "")).make().add(), 1);
    refuses("25 parts", STATE, pile(row(1, 11, ""), row(1, 12, "")), x -> x.add());
    refuses("25 parts", STATE, pile(row(1, 12, ""), row(1, 11, "")), x -> x.add());
    refuses("48 parts", STATE, pile(row(1, 23, ""), row(1, 23, "")), x -> x.add());
  }

  static void promise8() {
    section("Promise 8");
    says("Takes the top value, and gives it to a field of the object below it, in place of one that is there.");
    for (int field = 0; field < 8; field++) {
      for (String value : new String[] {"_", "-999", "w99", "[1,[2]]", "{}", "{0:[1],7:{}}"}) {
        for (String there : new String[] {"", "1", "[]", "{" + field + ":5}"}) {
          String before = there.isEmpty() ? "{}" : "{" + field + ":" + there + "}";
          Shardmoor x = pile(before, value).make();
          due("give", x.give(field), 1);
          x.insert(0, 0);
          due(value + " for " + field + " of " + before, x.print(0), printOf("{" + field + ":" + value + "}"));
        }
      }
    }
    Shardmoor x = new Shardmoor();
    x.object();
    for (int field : new int[] {3, 7, 0, 5, 3, 1}) {
      x.number(field);
      x.give(field);
    }
    x.insert(0, 0);
    due("several fields", x.print(0), printOf("{0:0,1:1,3:3,5:5,7:7}"));
    says("- field: 0 to 7");
    range(0, 7, ARGUMENT, (y, field) -> y.give(field), pile("{}", "1"), RICH, FULL);
    says("Returns how many values the pile has then.");
    due("of two", pile("{}", "1").make().give(0), 1);
    due("of ten", pile("_", "_", "_", "_", "_", "_", "_", "_", "{}", "1").make().give(7), 9);
    says("Throws IllegalArgumentException if field is out of range");
    range(0, 7, ARGUMENT, (y, field) -> y.give(field), FRESH, pile("1", "1"));
    says("Throws IllegalStateException if there are not two, the lower one is no object, or it would have more than 24"
        + " parts");
    refuses("an empty pile", STATE, FRESH, y -> y.give(0));
    refuses("one value", STATE, pile("{}"), y -> y.give(7));
    for (String lower : new String[] {"_", "1", "w1", "[]", "[{}]"}) {
      refuses("to " + lower, STATE, pile("{}", lower, "{}"), y -> y.give(3));
    }
    String many = "{1:" + row(1, 20, "") + "}";
    due("24 parts", pile(many, "[1]").make().give(0), 1);
    refuses("25 parts", STATE, pile(many, "[1,2]"), y -> y.give(0));
    due("24 parts, in place", pile("{0:[1]," + many.substring(1), "[2]").make().give(0), 1);
    refuses("25 parts, in place", STATE, pile("{0:[1]," + many.substring(1), "[1,2]"), y -> y.give(0));
    due("24 parts, in place", pile("{0:1," + many.substring(1), row(1, 21, "")).make().give(1), 1);
    refuses("25 parts, in place", STATE, pile("{0:1," + many.substring(1), row(1, 22, "")), y -> y.give(1));
    due("24 parts", pile("{}", row(1, 22, "")).make().give(0), 1);
    refuses("25 parts", STATE, pile("{}", row(1, 23, "")), y -> y.give(0));
  }

  static void promise9() {
    section("Promise 9");
    says("Empties the pile; returns how many values it had.");
    Shardmoor x = fullPile();
    due("full", x.drop(), 10);
    due("empty", x.drop(), 0);
    due("the pile", x.row(), 1);
    due("one", x.drop(), 1);
    due("of all kinds", pile("_", "1", "w1", "[1,2]", "{0:1}").make().drop(), 5);
  }

  // ---- documents

  static void promise10() {
    section("Promise 10");
    says("Tells a document: the top value, which is taken.");
    Shardmoor x = pile("{1:1}", "{0:{7:w3}}").make();
    x.insert(0, 7);
    due("the top value", x.print(7), printOf("{0:{7:w3}}"));
    due("documents", x.documents(), 1);
    x.insert(0, 8);
    due("the one below", x.print(8), printOf("{1:1}"));
    due("both are taken", x.drop(), 0);
    insert(x, 9, "{1:" + row(1, 22, "") + "}");
    due("24 parts", x.document(9, 2), 24);
    says("- router: 0 or 1");
    range(0, 1, ARGUMENT, (y, router) -> y.insert(router, 50), pile("{}"), RICH, FULL);
    says("- number: 0 to 99");
    range(0, 99, ARGUMENT, (y, number) -> y.insert(1, number), pile("{}"), RICH, FULL);
    says("Returns its shard.");
    String[] keys = {"{}", "{0:-1}", "{0:0}", "{0:333}", "{0:334}", "{0:666}", "{0:667}", "{0:999}", "{0:w700}"};
    int[] shards = {0, 0, 0, 0, 1, 1, 2, 2};
    for (int i = 0; i < shards.length; i++) {
      due("shard of " + keys[i], insert(new Shardmoor(), 0, keys[i]), shards[i]);
    }
    Shardmoor moved = new Shardmoor();
    moved.move(0, 2);
    due("while its chunk moves", insert(moved, 0, "{}"), 0);
    moved.handOver();
    due("when its chunk has moved", insert(moved, 1, "{}"), 2);
    says("Throws IllegalArgumentException if router or number is out of range");
    range(0, 1, ARGUMENT, (y, router) -> y.insert(router, 0), FRESH, pile("1"));
    range(0, 99, ARGUMENT, (y, number) -> y.insert(0, number), FRESH, pile("1"));
    says("Throws IllegalStateException if the top value is no object, there is such a document, there are 60, or a"
        + " rule is not kept");
    refuses("an empty pile", STATE, FRESH, y -> y.insert(0, 0));
    for (String value : new String[] {"_", "1", "w1", "[]", "[{}]"}) {
      refuses("tell " + value, STATE, pile("{}", value), y -> y.insert(0, 0));
    }
    for (int number = 3; number <= 7; number++) {
      int there = number;
      refuses("such a document", STATE, y -> y.insert(0, there));
    }
    refuses("a 61st", STATE, () -> told(60), y -> y.insert(0, 60));
    due("a 60th", told(59).insert(0, 99), 0);
    Maker ruled = () -> {
      Shardmoor y = pile("{3:w1,5:{}}").make();
      y.rule(3, 2);
      y.rule(5, 3);
      return y;
    };
    refuses("one of two rules", STATE, ruled, y -> y.insert(0, 0));
    Shardmoor kept = ruled.make();
    kept.row();
    kept.give(5);
    due("both rules", kept.insert(0, 0), 0);
  }

  /** So many empty documents, and an empty object on the pile. */
  private static Shardmoor told(int many) {
    Shardmoor x = new Shardmoor();
    for (int number = 0; number < many; number++) {
      x.object();
      x.insert(0, number);
    }
    x.object();
    return x;
  }

  static void promise11() {
    section("Promise 11");
    says("Updates a document.");
    updates("{0:5}", 0, SET, "6", "{0:6}");
    updates("{0:5}", 0, UNSET, "", "{}");
    updates("{0:5}", 0, ADD, "6", "{0:11}");
    updates("{0:[5]}", 0, PUSH, "6", "{0:[5,6]}");
    updates("{0:[5,6]}", 0, PULL, "6", "{0:[5]}");
    updates("{0:[5,6]}", 0, EACH, "6", "{0:[11,12]}");
    Shardmoor x = with("{0:1}", "{0:1}", "{0:1}");
    update(x, 1, 0, SET, "2");
    due("no other one", x.print(0) == printOf("{0:1}") && x.print(2) == printOf("{0:1}"), true);
    says("- router: 0 or 1");
    range(0, 1, ARGUMENT, (y, router) -> y.update(router, 3, 3, SET) ? 1 : 0, RICH);
    says("- number: that of the document");
    range(3, 7, BOUNDS, (y, number) -> y.update(0, number, 3, SET) ? 1 : 0, RICH);
    range(0, 57, BOUNDS, (y, number) -> y.update(0, number, 3, SET) ? 1 : 0, FULL);
    range(98, 99, BOUNDS, (y, number) -> y.update(0, number, 3, SET) ? 1 : 0, FULL);
    says("- path: 0 to 71");
    range(0, 71, ARGUMENT, (y, path) -> y.update(0, 3, path, SET) ? 1 : 0, RICH);
    says("- operator: 0 to 5");
    range(0, 5, ARGUMENT, (y, operator) -> y.update(0, 3, 1, operator) ? 1 : 0, RICH);
    says("Returns whether it is another one by that.");
    updates("{0:5}", 0, SET, "5", "{0:5}");
    updates("{0:{3:[1],5:w1}}", 0, SET, "{5:w1,3:[1]}", "{0:{3:[1],5:w1}}");
    updates("{}", 0, SET, "_", "{0:_}");
    updates("{}", 8, UNSET, "", "{}");
    updates("{0:0}", 0, ADD, "0", "{0:0}");
    updates("{}", 0, ADD, "0", "{0:0}");
    updates("{0:[]}", 0, PULL, "0", "{0:[]}");
    updates("{0:[w1]}", 0, EACH, "5", "{0:[w1]}");
    updates("{0:[1]}", 0, EACH, "0", "{0:[1]}");
    says("Throws IndexOutOfBoundsException if there is no such document");
    for (int number : new int[] {-1, 0, 2, 8, 99, 100, FAR[0], FAR[1]}) {
      refuses("number " + number, BOUNDS, y -> y.update(0, number, 0, UNSET) ? 1 : 0);
      refuses("number " + number, BOUNDS, y -> y.update(2, number, 72, 6) ? 1 : 0);
      refuses("number " + number, BOUNDS, FRESH, y -> y.update(0, number, 0, SET) ? 1 : 0);
    }
    says("Throws IllegalArgumentException if router, path or operator is out of range");
    Maker emptyPile = () -> with("{}", "{}", "{}", "{}");
    range(0, 1, ARGUMENT, (y, router) -> y.update(router, 3, 0, SET) ? 1 : 0, emptyPile);
    range(0, 71, ARGUMENT, (y, path) -> y.update(0, 3, path, SET) ? 1 : 0, emptyPile);
    range(0, 5, ARGUMENT, (y, operator) -> y.update(0, 3, 1, operator) ? 1 : 0, emptyPile);
    updatesThatThrow();
  }

  private static void updatesThatThrow() {
    says("Throws IllegalStateException if the pile is empty (but for UNSET), a value is not of the kind that is"
        + " needed, a number would be out of range, a rule would not be kept, or it would have more than 24 parts");
    for (int operator : new int[] {SET, ADD, PUSH, PULL, EACH}) {
      refusesUpdate("{}", 0, operator, "");
      refusesUpdate("{}", 71, operator, "");
    }
    updates("{0:1}", 0, UNSET, "", "{}");
    refusesUpdate("{0:w1}", 0, ADD, "1");
    refusesUpdate("{0:1}", 0, ADD, "w1");
    refusesUpdate("{0:1}", 0, PUSH, "1");
    refusesUpdate("{0:1}", 0, PULL, "1");
    refusesUpdate("{0:1}", 0, EACH, "1");
    refusesUpdate("{0:[1]}", 0, EACH, "w1");
    for (int operator = SET; operator <= EACH; operator++) {
      refusesUpdate("{0:[]}", 8, operator, operator == UNSET ? "" : "1");
    }
    refusesUpdate("{0:999}", 0, ADD, "1");
    refusesUpdate("{0:-999}", 0, ADD, "-1");
    refusesUpdate("{0:[1,999]}", 0, EACH, "1");
    refusesUpdate("{0:[1,-999]}", 0, EACH, "-1");
    Maker ruled = () -> {
      Shardmoor x = with("{0:1,1:[],2:{}}");
      x.rule(0, 1);
      x.rule(1, 3);
      x.rule(2, 4);
      tell(x, "w1");
      return x;
    };
    for (int field = 0; field <= 2; field++) {
      int path = field;
      refuses("unset by a rule", STATE, ruled, x -> x.update(0, 0, path, UNSET) ? 1 : 0);
      refuses("set by a rule", STATE, ruled, x -> x.update(0, 0, path, SET) ? 1 : 0);
    }
    due("another field", ruled.make().update(0, 0, 3, SET), true);
    due("a field in one with a rule", ruled.make().update(0, 0, 24, SET), true);
    due("behind a row with a rule", ruled.make().update(0, 0, 1, PUSH), true);
    String many = "{0:" + row(1, 21, "") + "}";
    updates(many, 1, SET, "1", many.replace("}", ",1:1}"));
    refusesUpdate(many, 1, SET, "[1]");
    refusesUpdate(many, 1, PUSH, "1");
    refusesUpdate(many, 16, ADD, "1");
    updates(many, 0, PUSH, "1", "{0:" + row(1, 21, ",1") + "}");
    refusesUpdate(many, 0, PUSH, "[1]");
    String eight = "{0:{},1:{},2:{},3:{},4:{},5:{},6:{},7:{}}";
    String fieldsOnly = "{0:" + eight + ",1:" + eight + ",3:{0:{},1:{},2:{},3:{}}}";
    refusesUpdate(fieldsOnly, 25, SET, fieldsOnly);
    refusesUpdate(fieldsOnly, 25, PUSH, fieldsOnly);
    refusesUpdate(fieldsOnly, 25, ADD, "1");
    refusesUpdate("{0:" + eight + "}", 25, SET, fieldsOnly);
    refusesUpdate("{0:" + eight + "}", 25, PUSH, fieldsOnly);
    updates(fieldsOnly, 3, SET, "{3:{1:{},2:{}},4:{}}", "{0:" + eight + ",1:" + eight + ",3:{3:{1:{},2:{}},4:{}}}");
    refusesUpdate(fieldsOnly, 3, SET, "{3:{1:{},2:{}},4:{},5:{}}");
  }

  static void promise12() {
    section("Promise 12");
    says("Removes a document.");
    Shardmoor x = with("{0:1}", "{0:400}", "{0:999}");
    x.remove(1, 1);
    due("documents", x.documents(), 2);
    due("none", x.document(1, 2), -1);
    due("others stay", x.print(0) == printOf("{0:1}") && x.print(2) == printOf("{0:999}"), true);
    due("told anew", insert(x, 1, "{0:700}"), 2);
    says("- router: 0 or 1");
    range(0, 1, ARGUMENT, (y, router) -> y.remove(router, 3), RICH, FULL);
    says("- number: that of the document");
    range(3, 7, BOUNDS, (y, number) -> y.remove(0, number), RICH);
    range(0, 57, BOUNDS, (y, number) -> y.remove(0, number), FULL);
    range(98, 99, BOUNDS, (y, number) -> y.remove(0, number), FULL);
    says("Returns the shard in which it lay.");
    String[] keys = {"{}", "{0:333}", "{0:334}", "{0:666}", "{0:667}", "{0:999}"};
    for (int i = 0; i < keys.length; i++) {
      due("shard of " + keys[i], with(keys[i]).remove(0, 0), i / 2);
    }
    says("Throws IndexOutOfBoundsException if there is no such document");
    for (int number : new int[] {-1, 0, 2, 8, 99, 100, FAR[0], FAR[1]}) {
      refuses("number " + number, BOUNDS, y -> y.remove(0, number));
      refuses("number " + number, BOUNDS, y -> y.remove(2, number));
      refuses("number " + number, BOUNDS, FRESH, y -> y.remove(0, number));
    }
    says("Throws IllegalArgumentException if router is out of range");
    range(0, 1, ARGUMENT, (y, router) -> y.remove(router, 0), () -> with("{}"), FULL);
  }

  static void promise13() {
    section("Promise 13");
    says("Sets the rule for a field.");
    for (int field = 0; field < 8; field++) {
      Shardmoor x = pile("{}").make();
      x.rule(field, 1);
      throwsBy("the field is missing", x, STATE, y -> y.insert(0, 0));
      x.number(1);
      x.give((field + 1) % 8);
      throwsBy("another field", x, STATE, y -> y.insert(0, 0));
      x.number(1);
      x.give(field);
      due("the field", x.insert(0, 0), 0);
    }
    says("- field: 0 to 7");
    range(0, 7, ARGUMENT, (x, field) -> x.rule(field, 0), ALL);
    says("- kind: 0 for none, 1 to 4");
    range(0, 4, ARGUMENT, (x, kind) -> x.rule(5, kind), ALL);
    String[] values = {"_", "1", "w1", "[]", "{}"};
    for (int kind = 1; kind <= 4; kind++) {
      for (int value = 0; value <= 4; value++) {
        int needed = kind;
        Maker state = made("{3:" + values[value] + "}");
        if (value == kind) {
          due("the kind " + kind, state.make().rule(3, kind), 0);
        } else {
          refuses("another kind", STATE, state, x -> x.rule(3, needed));
        }
      }
    }
    says("Returns the kind before.");
    Shardmoor x = new Shardmoor();
    int[] kinds = {4, 1, 2, 3, 0, 3, 3, 0, 0};
    for (int i = 0; i < kinds.length; i++) {
      due("the kind before", x.rule(7, kinds[i]), i == 0 ? 0 : kinds[i - 1]);
      due("of another field", x.rule(6, 0), 0);
    }
    says("Throws IllegalArgumentException if field or kind is out of range");
    range(0, 7, ARGUMENT, (y, field) -> y.rule(field, 4), () -> with("{}"));
    range(0, 4, ARGUMENT, (y, kind) -> y.rule(0, kind), () -> with("{}"));
    says("Throws IllegalStateException if some document does not keep it");
    refuses("kept by none", STATE, y -> y.rule(6, 1));
    refuses("kept by some only", STATE, y -> y.rule(3, 1));
    refuses("kept by all but one", STATE, () -> with("{3:1}", "{3:2}", "{3:w1}"), y -> y.rule(3, 1));
    refuses("kept by all but the first", STATE, () -> with("{}", "{3:1}", "{3:1}"), y -> y.rule(3, 1));
    due("kept by all", with("{3:1}", "{3:2}", "{3:3}").rule(3, 1), 0);
    due("no documents", new Shardmoor().rule(3, 1), 0);
    due("none is always kept", rich().rule(1, 0), 3);
  }

  private static Maker made(String... documents) {
    return () -> with(documents);
  }

  // ---- indexes, queries

  static void promise14() {
    section("Promise 14");
    says("Makes an index.");
    Shardmoor x = with("{0:1}", "{0:1}", "{0:{5:1}}");
    x.index(0, true);
    due("entries", x.entries(0), 3);
    x.index(13, true);
    due("entries", x.entries(1), 1);
    says("- path: 0 to 71");
    range(0, 71, ARGUMENT, (y, path) -> y.index(path, true), ALL);
    for (int path = 0; path < 72; path++) {
      due("index of " + path, new Shardmoor().index(path, false), 0);
    }
    says("- isSparse: whether it is sparse");
    due("entries of a sparse one", x.entries(1), 1);
    x.dropIndex(1);
    x.index(13, false);
    due("entries of one that is not", x.entries(1), 3);
    says("Returns its number, the lowest one that is free of 0 to 2.");
    int[][] runs = {{}, {0}, {1}, {2}, {0, 1}, {0, 2}, {1, 2}, {2, 1, 0}};
    for (int[] dropped : runs) {
      Shardmoor y = new Shardmoor();
      for (int i = 0; i < 3; i++) {
        due("index", y.index(60 + i, true), i);
      }
      for (int index : dropped) {
        y.dropIndex(index);
      }
      java.util.Arrays.sort(dropped);
      for (int index : dropped) {
        due("the lowest that is free", y.index(index, false), index);
      }
      throwsBy("a fourth", y, STATE, z -> z.index(9, true));
    }
    says("Throws IllegalArgumentException if path is out of range");
    range(0, 71, ARGUMENT, (y, path) -> y.index(path, false), FULL);
    says("Throws IllegalStateException if there are 3, or one with the path");
    refuses("a fourth", STATE, FULL, y -> y.index(2, true));
    refuses("a fourth", STATE, FULL, y -> y.index(1, true));
    refuses("one with the path", STATE, y -> y.index(1, true));
    refuses("one with the path", STATE, y -> y.index(1, false));
    refuses("one with the path", STATE, y -> y.index(25, true));
    due("another path", rich().index(26, true), 2);
  }

  static void promise15() {
    section("Promise 15");
    says("Drops an index, and all plans that are kept with it.");
    Shardmoor x = indexed();
    x.dropIndex(0);
    throwsBy("dropped", x, BOUNDS, y -> y.entries(0));
    due("others stay", x.entries(1), 3);
    due("plans", x.plan(4), 2);
    x.find(0);
    duePlan("a plan by none is kept", x, -1, 3, 0, 0, 2);
    filter(x, 0, 0, "1");
    x.find(0);
    duePlan("a plan with it is not", x, -1, 3, 1, 0, 3);
    x.clear();
    filter(x, 1, 0, "3");
    x.find(0);
    duePlan("a plan with another is kept", x, 1, 1, 0, 0, 3);
    says("- index: its number");
    for (int index = 0; index <= 1; index++) {
      Shardmoor y = indexed();
      y.dropIndex(index);
      int gone = index;
      throwsBy("it", y, BOUNDS, z -> z.entries(gone));
      due("the other", y.entries(1 - index), 3);
    }
    says("Returns how many plans are dropped.");
    due("two plans with the first", indexed().dropIndex(0), 2);
    due("one with the second", indexed().dropIndex(1), 1);
    x = indexed();
    x.dropIndex(0);
    x.dropIndex(1);
    due("the one by none", x.plan(4), 1);
    x.index(0, true);
    due("none", x.dropIndex(0), 0);
    says("Throws IndexOutOfBoundsException if there is no such index");
    range(0, 2, BOUNDS, (y, index) -> y.dropIndex(index), FULL);
    range(0, 1, BOUNDS, (y, index) -> y.dropIndex(index), RICH);
    for (int index = 0; index < 3; index++) {
      int none = index;
      refuses("no index", BOUNDS, FRESH, y -> y.dropIndex(none));
      refuses("dropped", BOUNDS, () -> {
        Shardmoor y = full();
        y.dropIndex(none);
        return y;
      }, y -> y.dropIndex(none));
    }
  }

  /** Two indexes, two plans with the first, one with the second, one by none. */
  private static Shardmoor indexed() {
    Shardmoor x = with("{0:1,1:2}", "{0:2,1:2}", "{0:3,1:3}");
    x.index(0, true);
    x.index(1, true);
    filter(x, 0, 0, "1");
    x.find(0);
    filter(x, 2, 3, "_");
    x.find(0);
    x.clear();
    filter(x, 1, 0, "3");
    x.find(0);
    x.clear();
    x.find(0);
    due("plans", x.plan(4), 4);
    return x;
  }

  static void promise16() {
    section("Promise 16");
    says("Adds a filter to the query, with the top value, which is taken.");
    Shardmoor x = with("{1:5}", "{1:6}");
    tell(x, "5");
    tell(x, "6");
    x.filter(1, 0);
    dueText("by the top value", foundBy(x), "1");
    due("one value is left", x.drop(), 1);
    says("- path: 0 to 71");
    range(0, 71, ARGUMENT, (y, path) -> y.filter(path, 0), pile("1"), RICH, FULL);
    says("- relation: 0 to 4");
    range(0, 4, ARGUMENT, (y, relation) -> y.filter(0, relation), pile("1"), RICH, FULL);
    says("Returns how many filters it has then.");
    x = new Shardmoor();
    for (int many = 1; many <= 3; many++) {
      x.number(1);
      due("filters", x.filter(71, many + 1), many);
    }
    x.clear();
    x.number(1);
    due("filters", x.filter(71, 4), 1);
    says("Throws IllegalArgumentException if path or relation is out of range");
    range(0, 71, ARGUMENT, (y, path) -> y.filter(path, 0), FRESH);
    range(0, 4, ARGUMENT, (y, relation) -> y.filter(0, relation), FRESH);
    says("Throws IllegalStateException if the pile is empty, the query has 3 filters, or the value of the relation 4"
        + " is no number");
    for (int relation = 0; relation <= 4; relation++) {
      int asked = relation;
      refuses("an empty pile", STATE, FRESH, y -> y.filter(0, asked));
      refuses("a fourth", STATE, FULL, y -> y.filter(0, asked));
      due("no number", answer(pile("{}").make(), y -> y.filter(0, asked)) == STATE, relation == 4);
    }
    for (String value : new String[] {"_", "w1", "[]", "[1]", "{}"}) {
      refuses("so many parts by " + value, STATE, pile("1", value), y -> y.filter(0, 4));
    }
    due("by a number", pile("-999").make().filter(0, 4), 1);
    due("by a number", pile("999").make().filter(0, 4), 1);
  }

  static void promise17() {
    section("Promise 17");
    says("Empties the query; returns how many filters it had.");
    for (int many = 0; many <= 3; many++) {
      Shardmoor x = with("{0:1}", "{0:2}");
      for (int i = 0; i < many; i++) {
        filter(x, 0, 0, "2");
      }
      due("find", x.find(0), many > 0 ? 1 : 2);
      due("clear", x.clear(), many);
      due("what was found stays", x.found(0), many > 0 ? 1 : 0);
      due("clear", x.clear(), 0);
      due("find", x.find(0), 2);
    }
  }

  static void promises18To20() {
    section("Promise 18");
    says("Finds what the query asks for.");
    Shardmoor x = with("{0:1,1:1}", "{0:2,1:1}", "{0:3,1:2}", "{0:4,1:1,2:1}");
    filter(x, 1, 0, "1");
    filter(x, 0, 2, "1");
    dueText("found", foundBy(x), "1 3");
    says("- router: 0 or 1, which is used by that");
    range(0, 1, ARGUMENT, (y, router) -> y.find(router), ALL);
    x.split(0, 2);
    x.find(1);
    due("used", x.router(1, 0), 2);
    due("not the other", x.router(0, 0), 1);
    x.find(0);
    due("used", x.router(0, 0), 2);
    says("Returns how many documents are found.");
    due("two", x.find(0), 2);
    x.clear();
    due("all", x.find(0), 4);
    filter(x, 7, 3, "_");
    due("none", x.find(0), 0);
    due("no documents", new Shardmoor().find(1), 0);
    due("60", told(60).find(0), 60);
    says("Throws IllegalArgumentException if router is out of range");
    range(0, 1, ARGUMENT, (y, router) -> y.find(router), FRESH, RICH);
    section("Promise 19");
    says("Returns a document that was found by the latest query.");
    x = with("{0:1}", "{0:2}", "{0:1}");
    filter(x, 0, 0, "1");
    x.find(0);
    due("found", x.found(1), 2);
    x.remove(0, 2);
    due("as it was found", x.found(1), 2);
    insert(x, 2, "{0:9}");
    due("as it was found", x.found(1), 2);
    x.find(0);
    throwsBy("found by the latest", x, BOUNDS, y -> y.found(1));
    says("- place: 0 for the lowest one");
    Shardmoor lowest = new Shardmoor();
    for (int number : new int[] {99, 50, 0, 7}) {
      insert(lowest, number, "{}");
    }
    lowest.find(0);
    says("Returns its number.");
    int[] numbers = {0, 7, 50, 99};
    for (int place = 0; place < 4; place++) {
      due("found", lowest.found(place), numbers[place]);
    }
    says("- place: 0 for the lowest one");
    due("the lowest", lowest.found(0), 0);
    says("Throws IndexOutOfBoundsException if there are not so many");
    range(0, 3, BOUNDS, (y, place) -> y.found(place), () -> {
      Shardmoor y = with("{}", "{}", "{}", "{}");
      y.find(0);
      return y;
    });
    for (int place : new int[] {-1, 0, 1, FAR[0], FAR[1]}) {
      refuses("none is found yet", BOUNDS, made("{}", "{}"), y -> y.found(place));
    }
    range(0, 59, BOUNDS, (y, place) -> y.found(place), () -> {
      Shardmoor y = told(60);
      y.find(0);
      return y;
    });
    section("Promise 20");
    says("Returns how many documents the query would find now, looking at all of them, one by one, as if they lay in"
        + " one row.");
    x = with("{0:1}", "{0:700}", "{0:1}");
    due("no filter", x.findAnew(), 3);
    filter(x, 0, 0, "1");
    due("without a find", x.findAnew(), 2);
    x.find(0);
    x.remove(0, 0);
    due("now", x.findAnew(), 1);
    due("what was found stays", x.found(0), 0);
    insert(x, 9, "{0:1}");
    insert(x, 8, "{0:1}");
    update(x, 1, 0, SET, "1");
    due("now", x.findAnew(), 4);
    x.clear();
    due("no filter", x.findAnew(), 4);
    due("no documents", new Shardmoor().findAnew(), 0);
  }

  static void promise21() {
    section("Promise 21");
    says("Tells of the latest query: 0 the index by which it looked, -1 for none; 1 at how many documents it looked by"
        + " that; 2 how many plans were tried; 3 whether a plan was dropped (1 or 0); 4 how many plans are kept now.");
    Shardmoor x = with("{1:1,2:5}", "{1:1,2:6}", "{1:2,2:7}", "{1:3}", "{}");
    duePlan("no query yet", x, -1, 0, 0, 0, 0);
    filter(x, 1, 0, "1");
    x.find(0);
    duePlan("no index", x, -1, 5, 1, 0, 1);
    x.index(1, true);
    x.find(0);
    duePlan("the plan that is kept", x, -1, 5, 0, 0, 1);
    x.clear();
    filter(x, 1, 1, "3");
    x.find(0);
    duePlan("by an index", x, 0, 3, 2, 0, 2);
    x.index(2, true);
    x.clear();
    filter(x, 1, 2, "0");
    filter(x, 2, 2, "5");
    x.find(0);
    duePlan("by the second", x, 1, 2, 3, 0, 3);
    for (int i = 10; i < 15; i++) {
      insert(x, i, "{1:5,2:9}");
    }
    x.find(0);
    duePlan("dropped", x, 1, 7, 3, 1, 3);
    due("found", x.found(6), 14);
    says("- what: 0 to 4");
    range(0, 4, ARGUMENT, (y, what) -> y.plan(what), ALL);
    says("Throws IllegalArgumentException if what is out of range");
    range(0, 4, ARGUMENT, (y, what) -> y.plan(what), FRESH, RICH);
    x.dropIndex(0);
    duePlan("the latest query's, and how many are kept now", x, 1, 7, 3, 1, 2);
    throwsBy("5", x, ARGUMENT, y -> y.plan(5));
  }

  static void promises22And23() {
    section("Promise 22");
    says("Groups.");
    Shardmoor x = with("{0:1,1:w2,2:[10,20,[5],w7]}", "{0:2,1:[3,3,[3]],2:-4}", "{0:3,1:3}", "{0:4}", "{0:5,1:_}",
        "{0:6,1:{1:1}}", "{0:7,1:{0:9,1:1}}", "{0:8,1:{0:9}}", "{0:9,1:{}}", "{1:w0,0:10}", "{1:-1}", "{1:[]}");
    due("nothing is found yet", x.group(1, 0), 0);
    x.find(0);
    x.group(1, 2);
    String[] values = {"_", "-1", "3", "w0", "w2", "{}", "{0:9}", "{0:9,1:1}", "{1:1}"};
    for (int i = 0; i < values.length; i++) {
      dueGroup(x, i, values[i], i == 2 ? 3 : 1, i == 2 ? -8 : i == 4 ? 30 : 0);
    }
    says("- path: 0 to 71");
    range(0, 71, ARGUMENT, (y, path) -> y.group(path, 0), ALL);
    says("- sum: 0 to 71: the other one");
    range(0, 71, ARGUMENT, (y, sum) -> y.group(0, sum), ALL);
    for (int path = 0; path < 72; path++) {
      String document = path < 8 ? "{" + path + ":7}" : "{" + (path / 8 - 1) + ":{" + path % 8 + ":7}}";
      Shardmoor y = with(document);
      y.find(0);
      due("a group at " + path, y.group(path, path), 1);
      dueGroup(y, 0, "7", 1, 7);
    }
    says("Returns how many groups there are.");
    due("nine", x.group(1, 0), 9);
    due("one of two fields", x.group(16, 0), 1);
    due("none", x.group(71, 0), 0);
    Shardmoor many = new Shardmoor();
    for (int i = 0; i < 10; i++) {
      insert(many, i, "{1:" + row(181 - 20 * i, 200 - 20 * i, "") + "}");
    }
    many.find(0);
    due("200", many.group(1, 1), 200);
    for (int i = 0; i < 200; i++) {
      due("in order", many.grouped(i, 0), printOf("" + (i + 1)));
    }
    dueGroup(many, 199, "200", 1, 3810);
    says("Throws IllegalArgumentException if path or sum is out of range");
    range(0, 71, ARGUMENT, (y, path) -> y.group(path, 71), RICH, FULL);
    range(0, 71, ARGUMENT, (y, sum) -> y.group(71, sum), RICH, FULL);
    section("Promise 23");
    says("Tells of a group by the latest group(): 0 the print of its value, 1 how many times, 2 the sum.");
    x = with("{1:1,2:10}", "{1:1,2:20}", "{1:2,2:30}", "{1:{3:[w1]},2:-999}");
    x.find(0);
    x.group(1, 2);
    dueGroup(x, 0, "1", 2, 30);
    dueGroup(x, 1, "2", 1, 30);
    dueGroup(x, 2, "{3:[w1]}", 1, -999);
    update(x, 0, 1, SET, "9");
    x.remove(0, 2);
    x.find(0);
    dueGroup(x, 0, "1", 2, 30);
    dueGroup(x, 1, "2", 1, 30);
    x.group(1, 1);
    dueGroup(x, 0, "1", 1, 1);
    dueGroup(x, 1, "9", 1, 9);
    says("- place: 0 for the first one");
    due("the first", x.grouped(0, 0), printOf("1"));
    Maker four = () -> {
      Shardmoor y = with("{1:[1,2,3,4]}");
      y.find(0);
      y.group(1, 1);
      return y;
    };
    range(0, 3, BOUNDS, (y, place) -> y.grouped(place, 0), four);
    says("- what: 0 to 2");
    range(0, 2, ARGUMENT, (y, what) -> y.grouped(3, what), four);
    says("Throws IndexOutOfBoundsException if there are not so many");
    range(0, 3, BOUNDS, (y, place) -> y.grouped(place, 3), four);
    for (int place : new int[] {-1, 0, 1, FAR[0], FAR[1]}) {
      refuses("no group yet", BOUNDS, FRESH, y -> y.grouped(place, 0));
      refuses("no groups", BOUNDS, () -> {
        Shardmoor y = four.make();
        y.group(2, 1);
        return y;
      }, y -> y.grouped(place, 0));
    }
    says("Throws IllegalArgumentException if what is out of range");
    range(0, 2, ARGUMENT, (y, what) -> y.grouped(0, what), four, RICH, FULL);
  }

  // ---- shards

  static void promise24() {
    section("Promise 24");
    says("Splits a chunk.");
    Shardmoor x = with("{0:0}", "{0:99}", "{0:100}", "{0:333}");
    x.split(0, 100);
    int[] firsts = {0, 100, 334, 667};
    int[] shards = {0, 0, 1, 2};
    int[] documents = {2, 2, 0, 0};
    for (int chunk = 0; chunk < 4; chunk++) {
      due("first key", x.chunk(chunk, 0), firsts[chunk]);
      due("shard", x.chunk(chunk, 1), shards[chunk]);
      due("documents", x.chunk(chunk, 2), documents[chunk]);
    }
    due("no document moves", x.document(2, 0), 0);
    says("- chunk: its place, from 0");
    range(0, 2, BOUNDS, (y, chunk) -> y.split(chunk, 334 * chunk + 5), FRESH);
    range(0, 11, BOUNDS, (y, chunk) -> y.split(chunk, 700), FULL);
    says("- at: a key, where the second part begins");
    range(1, 333, ARGUMENT, (y, at) -> y.split(0, at), FRESH);
    range(335, 666, ARGUMENT, (y, at) -> y.split(1, at), FRESH);
    range(668, 999, ARGUMENT, (y, at) -> y.split(2, at), FRESH);
    for (int at : new int[] {1, 333, 335, 666, 668, 999}) {
      Shardmoor y = new Shardmoor();
      int chunk = at / 334;
      y.split(chunk, at);
      due("the second part", y.chunk(chunk + 1, 0), at);
      due("its shard", y.chunk(chunk + 1, 1), chunk);
    }
    says("Returns how many chunks there are then.");
    Shardmoor y = new Shardmoor();
    for (int i = 1; i <= 9; i++) {
      due("chunks", y.split(0, 300 - i), 3 + i);
    }
    says("Throws IndexOutOfBoundsException if there is no such chunk");
    for (int chunk : new int[] {-1, 3, 12, FAR[0], FAR[1]}) {
      refuses("chunk " + chunk, BOUNDS, FRESH, z -> z.split(chunk, 5));
      refuses("chunk " + chunk, BOUNDS, FRESH, z -> z.split(chunk, -1));
    }
    refuses("chunk 4 of 4", BOUNDS, z -> z.split(4, 700));
    says("Throws IllegalArgumentException if at is no key of it, or its first one");
    for (int at : new int[] {-1, 0, 334, 999, 1000, FAR[0], FAR[1]}) {
      refuses("at " + at, ARGUMENT, FRESH, z -> z.split(0, at));
    }
    for (int at : new int[] {0, 333, 334, 667, 668}) {
      refuses("at " + at, ARGUMENT, FRESH, z -> z.split(1, at));
    }
    for (int at : new int[] {0, 666, 667, 1000, 1001}) {
      refuses("at " + at, ARGUMENT, FRESH, z -> z.split(2, at));
    }
    for (int at : new int[] {8, 9, 10, 334}) {
      due("at " + at + " of the key 8 alone", answer(full(), z -> z.split(8, at)) == ARGUMENT, true);
    }
    says("Throws IllegalStateException if it moves, or there are 12");
    refuses("it moves", STATE, z -> z.split(1, 101));
    refuses("it moves", STATE, z -> z.split(1, 333));
    due("another", rich().split(0, 99), 5);
    due("another", rich().split(2, 335), 5);
    refuses("there are 12", STATE, FULL, z -> z.split(11, 668));
    refuses("there are 12", STATE, FULL, z -> z.split(9, 10));
  }

  static void promise25() {
    section("Promise 25");
    says("Begins to move a chunk.");
    Shardmoor x = with("{0:0}", "{0:400}", "{0:1}");
    x.move(0, 2);
    due("it moves", x.chunk(0, 3), 1);
    due("its shard", x.chunk(0, 1), 0);
    dueShards("none is copied", x, 2, 0, 0, 1, 0, 0, 0, 0, 0);
    says("- chunk: its place");
    range(0, 2, BOUNDS, (y, chunk) -> y.move(chunk, (chunk + 1) % 3), FRESH);
    range(0, 11, BOUNDS, (y, chunk) -> y.move(chunk, 1), FULL);
    says("- shard: another one");
    range(0, 2, ARGUMENT, (y, shard) -> y.move(1, shard), ALL);
    for (int chunk = 0; chunk < 3; chunk++) {
      for (int shard = 0; shard < 3; shard++) {
        Shardmoor y = new Shardmoor();
        int place = chunk;
        int other = shard;
        Object got = answer(y, z -> z.move(place, other));
        due("another one", got.equals(0L), chunk != shard);
        due("moves", y.chunk(chunk, 3), chunk != shard ? 1 : 0);
      }
    }
    says("Returns how many documents have to be copied.");
    due("none", new Shardmoor().move(0, 1), 0);
    due("one", with("{0:400}", "{0:1}").move(1, 2), 1);
    due("60", told(60).move(0, 1), 60);
    x = with("{}", "{}", "{}");
    x.move(0, 1);
    x.copy(2);
    x.giveUp();
    due("all anew", x.move(0, 1), 3);
    says("Throws IndexOutOfBoundsException if there is no such chunk");
    for (int chunk : new int[] {-1, 3, 12, FAR[0], FAR[1]}) {
      refuses("chunk " + chunk, BOUNDS, FRESH, y -> y.move(chunk, 0));
      refuses("chunk " + chunk, BOUNDS, FRESH, y -> y.move(chunk, 3));
    }
    refuses("chunk 4 of 4", BOUNDS, y -> y.move(4, 0));
    says("Throws IllegalArgumentException if there is no such shard");
    range(0, 2, ARGUMENT, (y, shard) -> y.move(0, shard), FRESH, RICH);
    says("Throws IllegalStateException if the chunk is of that shard, or one moves");
    for (int shard = 0; shard < 3; shard++) {
      int own = shard;
      refuses("of that shard", STATE, FRESH, y -> y.move(own, own));
      refuses("one moves", STATE, y -> y.move(0, own));
      refuses("it moves", STATE, y -> y.move(1, own));
      refuses("one moves", STATE, y -> y.move(3, own));
    }
    x = with("{}");
    x.move(0, 1);
    x.copy(1);
    x.handOver();
    throwsBy("of that shard", x, STATE, y -> y.move(0, 1));
    due("back", x.move(0, 0), 1);
  }

  static void promises26To28() {
    section("Promise 26");
    says("Copies documents of the chunk that moves.");
    Shardmoor x = with("{}", "{0:400}", "{}", "{}");
    x.move(0, 1);
    x.copy(2);
    dueShards("two copies", x, 3, 0, 0, 1, 0, 2, 0, 0, 0);
    says("- many: 1 to 20");
    range(1, 20, ARGUMENT, (y, many) -> y.copy(many), ALL);
    says("Returns how many are left to be copied.");
    for (int many = 1; many <= 20; many++) {
      Shardmoor y = told(21);
      y.move(0, 2);
      due("left", y.copy(many), 21 - many);
      due("copies", y.shard(2, 2), many);
      due("left", y.copy(20), Math.max(0, 1 - many));
      due("none is left", y.copy(1), 0);
      due("copies", y.shard(2, 2), 21);
    }
    Shardmoor none = new Shardmoor();
    none.move(0, 2);
    due("an empty chunk", none.copy(1), 0);
    says("Throws IllegalArgumentException if many is out of range");
    range(1, 20, ARGUMENT, (y, many) -> y.copy(many), FRESH, RICH);
    says("Throws IllegalStateException if none moves");
    refuses("none moves", STATE, FRESH, y -> y.copy(1));
    refuses("none moves", STATE, FULL, y -> y.copy(20));
    section("Promise 27");
    says("Hands the chunk that moves over.");
    x.copy(20);
    x.handOver();
    due("its shard", x.chunk(0, 1), 1);
    due("it moves no more", x.chunk(0, 3), 0);
    says("Returns how many documents it has, which are orphans in the first shard then.");
    dueShards("orphans", x, 0, 3, 0, 4, 0, 0, 0, 0, 0);
    x.move(0, 2);
    x.copy(20);
    insert(x, 9, "{}");
    due("one more has come", x.handOver(), 4);
    dueShards("orphans", x, 0, 3, 0, 1, 4, 0, 4, 0, 0);
    due("none", none.handOver(), 0);
    dueShards("no orphans", none, 0, 0, 0, 0, 0, 0, 0, 0, 0);
    says("Throws IllegalStateException if none moves, or some are not copied");
    refuses("none moves", STATE, FRESH, y -> y.handOver());
    refuses("none moves", STATE, FULL, y -> y.handOver());
    for (int copied = 0; copied < 3; copied++) {
      int many = copied;
      refuses("only " + copied + " are copied", STATE, () -> {
        Shardmoor y = with("{}", "{}", "{}");
        y.move(0, 1);
        if (many > 0) {
          y.copy(many);
        }
        return y;
      }, y -> y.handOver());
    }
    section("Promise 28");
    says("Gives a move up.");
    x = rich();
    due("copies", x.shard(2, 2), 1);
    x.giveUp();
    due("it moves no more", x.chunk(1, 3), 0);
    due("its shard", x.chunk(1, 1), 0);
    dueShards("no copies", x, 3, 0, 0, 1, 0, 0, 1, 0, 0);
    says("Returns how many documents were copied.");
    for (int copied = 0; copied <= 3; copied++) {
      Shardmoor y = with("{}", "{}", "{}");
      y.move(0, 1);
      if (copied > 0) {
        y.copy(copied);
      }
      due("copied", y.giveUp(), copied);
    }
    says("Throws IllegalStateException if none moves");
    refuses("none moves", STATE, FRESH, y -> y.giveUp());
    refuses("none moves", STATE, FULL, y -> y.giveUp());
  }

  static void promises29And30() {
    section("Promise 29");
    says("Cleans the orphans of a shard.");
    Shardmoor x = with("{0:0}", "{0:1}", "{0:400}");
    x.move(0, 1);
    x.copy(2);
    x.handOver();
    x.move(1, 0);
    x.copy(20);
    x.handOver();
    dueShards("orphans", x, 1, 2, 0, 2, 1, 0, 0, 0, 0);
    x.clean(0);
    dueShards("cleaned", x, 1, 0, 0, 2, 1, 0, 0, 0, 0);
    says("- shard: 0 to 2");
    range(0, 2, ARGUMENT, (y, shard) -> y.clean(shard), ALL);
    says("Returns how many there were.");
    due("none", x.clean(0), 0);
    due("none", x.clean(2), 0);
    due("one", x.clean(1), 1);
    due("none", x.clean(1), 0);
    due("documents", x.documents(), 3);
    says("Throws IllegalArgumentException if there is no such shard");
    range(0, 2, ARGUMENT, (y, shard) -> y.clean(shard), FRESH, FULL);
    section("Promise 30");
    says("Shards by another key.");
    x = with("{0:1,1:999}", "{0:999,1:999}", "{0:500,1:w3}", "{1:-5}", "{0:700,1:700}");
    x.split(0, 5);
    x.move(2, 0);
    x.copy(5);
    x.handOver();
    due("another key", x.key(1, false), 1);
    due("key", x.document(0, 1), 999);
    due("shard", x.document(0, 0), 2);
    due("a word", x.document(2, 1), 0);
    due("below 0", x.document(3, 1), 0);
    throwsBy("chunks as at first", x, BOUNDS, y -> y.chunk(3, 0));
    due("no orphans", x.shard(1, 1), 0);
    due("no entries by that", x.next(5), -1);
    says("- field: 0 to 7");
    range(0, 7, ARGUMENT, (y, field) -> y.key(field, false), ALL);
    for (int field = 0; field < 8; field++) {
      Shardmoor y = with("{" + field + ":888}");
      y.key(field, false);
      due("by the field " + field, y.document(0, 1), 888);
      y.key((field + 1) % 8, false);
      due("by another", y.document(0, 1), 0);
    }
    says("- isHashed: whether it is hashed");
    Shardmoor y = with("{7:1}");
    y.key(7, true);
    due("hashed", y.document(0, 1), 919);
    y.key(7, false);
    due("not hashed", y.document(0, 1), 1);
    says("Returns how many documents lie in another shard by that.");
    due("the same", y.key(7, false), 0);
    due("one", y.key(7, true), 1);
    due("the same", y.key(7, true), 0);
    due("no documents", new Shardmoor().key(7, true), 0);
    due("all of 60", told60ByWord().key(0, true), 60);
    y = with("{0:0}", "{0:1}", "{0:400}");
    y.move(0, 1);
    y.copy(2);
    y.handOver();
    due("those of a chunk that has moved", y.key(0, false), 2);
    says("Throws IllegalArgumentException if field is out of range");
    range(0, 7, ARGUMENT, (z, field) -> z.key(field, true), FRESH, RICH);
    says("Throws IllegalStateException if a chunk moves");
    refuses("a chunk moves", STATE, z -> z.key(0, false));
    refuses("a chunk moves", STATE, z -> z.key(7, true));
    refuses("an empty chunk moves", STATE, () -> {
      Shardmoor z = new Shardmoor();
      z.move(0, 1);
      return z;
    }, z -> z.key(1, false));
  }

  /** Documents in the shard 0, of the key 500 when it is hashed. */
  private static Shardmoor told60ByWord() {
    Shardmoor x = new Shardmoor();
    for (int number = 0; number < 60; number++) {
      insert(x, number, "{0:w0}");
    }
    return x;
  }

  // ---- time

  static void promises31And32() {
    section("Promise 31");
    says("Sets the expiring field.");
    for (int field = 0; field < 8; field++) {
      Shardmoor x = with("{" + field + ":1}", "{" + (field + 1) % 8 + ":1}");
      x.expire(field);
      due("one goes", x.tick(1), 1);
      due("the other stays", x.document(1, 2), 2);
      x.expire(-1);
      due("none goes", x.tick(1), 0);
    }
    says("- field: 0 to 7; -1 for none");
    range(-1, 7, ARGUMENT, (x, field) -> x.expire(field), ALL);
    says("Returns the one before.");
    Shardmoor x = new Shardmoor();
    int[] fields = {7, 0, -1, 3, 3, -1, -1};
    for (int i = 0; i < fields.length; i++) {
      due("the one before", x.expire(fields[i]), i == 0 ? -1 : fields[i - 1]);
    }
    says("Throws IllegalArgumentException if field is out of range");
    range(-1, 7, ARGUMENT, (y, field) -> y.expire(field), RICH);
    section("Promise 32");
    says("Lets ticks pass.");
    x = with("{5:3}", "{5:2}", "{5:w1}", "{5:[1]}", "{}", "{5:21}", "{5:-999}", "{5:3,0:500}");
    x.expire(5);
    x.tick(1);
    due("now", x.now(), 1);
    x.tick(20);
    due("now", x.now(), 21);
    due("documents", x.documents(), 3);
    says("- ticks: 1 to 20");
    range(1, 20, ARGUMENT, (y, ticks) -> y.tick(ticks), ALL);
    for (int ticks = 1; ticks <= 20; ticks++) {
      Shardmoor y = new Shardmoor();
      y.tick(ticks);
      due("now", y.now(), ticks);
    }
    says("Returns how many documents went.");
    x = with("{5:1}", "{5:2}", "{5:2}", "{5:20}", "{5:22}", "{5:_}");
    due("without an expiring field", x.tick(1), 0);
    x.expire(5);
    due("now 2", x.tick(1), 3);
    due("now 19", x.tick(17), 0);
    due("now 20", x.tick(1), 1);
    due("now 21", x.tick(1), 0);
    due("now 41", x.tick(20), 1);
    due("now 61", x.tick(20), 0);
    Shardmoor all = new Shardmoor();
    for (int number = 0; number < 60; number++) {
      insert(all, number, "{0:" + (number % 20 + 1) + "}");
    }
    all.expire(0);
    due("all", all.tick(20), 60);
    for (int i = 0; i < 60; i++) {
      due("by their ticks, then by rising numbers", all.change(61 + i, 1), i / 3 + i % 3 * 20);
    }
    movingExpires();
    says("Throws IllegalArgumentException if ticks is out of range");
    range(1, 20, ARGUMENT, (y, ticks) -> y.tick(ticks), RICH, FULL);
  }

  private static void movingExpires() {
    Shardmoor moving = with("{5:2}", "{5:1}");
    moving.index(5, false);
    moving.expire(5);
    moving.move(0, 1);
    moving.copy(2);
    due("went", moving.tick(1), 1);
    due("no copy of it", moving.shard(1, 2), 1);
    due("no entries of it", moving.entries(0), 1);
    due("handOver", moving.handOver(), 1);
  }

  // ---- what there is

  static void promises33To35() {
    section("Promise 33");
    says("Returns how many documents there are.");
    Shardmoor x = new Shardmoor();
    for (int many = 1; many <= 60; many++) {
      insert(x, 100 - many, "{}");
      due("documents", x.documents(), many);
    }
    for (int many = 59; many >= 0; many--) {
      x.remove(0, 40 + many);
      due("documents", x.documents(), many);
    }
    section("Promise 34");
    says("Tells of a document: 0 its shard, 1 its key, 2 its parts; -1 if there is none.");
    x = with("{0:340,1:[1,{2:_}]}", "{}", "{0:999,1:" + row(1, 21, "") + "}");
    int[][] told = {{1, 340, 6}, {0, 0, 1}, {2, 999, 24}};
    for (int number = 0; number < 3; number++) {
      for (int what = 0; what < 3; what++) {
        due("document(" + number + ", " + what + ")", x.document(number, what), told[number][what]);
      }
    }
    says("- number: any");
    for (int number : new int[] {-1, 3, 99, 100, FAR[0], FAR[1]}) {
      for (int what = 0; what < 3; what++) {
        due("none", x.document(number, what), -1);
      }
    }
    due("99", told99().document(99, 2), 1);
    says("- what: 0 to 2");
    range(0, 2, ARGUMENT, (y, what) -> y.document(3, what), ALL);
    says("Throws IllegalArgumentException if what is out of range");
    range(0, 2, ARGUMENT, (y, what) -> y.document(-1, what), ALL);
    section("Promise 35");
    says("Returns the print of a document: a long that is told with overflow, 7 at first; each of these makes it 31"
        + " times itself and a number, together, in order: nothing 1; a number 2 and it; a word 3 and it; a row 4, how"
        + " many parts it has, and these; an object 5, how many fields it has, and each field, by rising numbers, and"
        + " its value.");
    due("{}", with("{}").print(0), (7 * 31 + 5) * 31);
    due("{0:_}", with("{0:_}").print(0), (((7L * 31 + 5) * 31 + 1) * 31 + 0) * 31 + 1);
    due("{7:-5}", with("{7:-5}").print(0), ((((7L * 31 + 5) * 31 + 1) * 31 + 7) * 31 + 2) * 31 - 5);
    due("{1:w9}", with("{1:w9}").print(0), ((((7L * 31 + 5) * 31 + 1) * 31 + 1) * 31 + 3) * 31 + 9);
    due("{1:[]}", with("{1:[]}").print(0), ((((7L * 31 + 5) * 31 + 1) * 31 + 1) * 31 + 4) * 31);
    due("with overflow", with("{0:" + row(1, 22, "") + "}").print(0), printOf("{0:" + row(1, 22, "") + "}"));
    for (String value : new String[] {"[[],[[1]],{}]", "{0:1,7:{3:[w1]}}", "[1,[2,3],4]", "{2:{},4:[]}"}) {
      due("print of " + value, with("{3:" + value + "}").print(0), printOf("{3:" + value + "}"));
    }
    says("- number: that of the document");
    range(3, 7, BOUNDS, (y, number) -> y.print(number), RICH);
    range(0, 57, BOUNDS, (y, number) -> y.print(number), FULL);
    range(98, 99, BOUNDS, (y, number) -> y.print(number), FULL);
    says("Throws IndexOutOfBoundsException if there is no such document");
    for (int number : new int[] {-1, 0, 99, 100, FAR[0], FAR[1]}) {
      refuses("print", BOUNDS, FRESH, y -> y.print(number));
      refuses("print", BOUNDS, y -> y.print(number));
    }
  }

  private static Shardmoor told99() {
    Shardmoor x = new Shardmoor();
    insert(x, 99, "{}");
    return x;
  }

  static void promises36And37() {
    section("Promise 36");
    says("Returns how many entries an index has.");
    String[] documents = {"{}", "{1:_}", "{1:5}", "{1:[]}", "{1:[5,5,6]}", "{1:[[5],[5],5]}", "{1:{0:5}}"};
    int[] entries = {0, 1, 1, 1, 3, 3, 1};
    Shardmoor x = new Shardmoor();
    x.index(1, true);
    x.index(71, false);
    int many = 0;
    due("none", x.entries(0), 0);
    for (int i = 0; i < documents.length; i++) {
      insert(x, i, documents[i]);
      many += entries[i];
      due("entries", x.entries(0), many);
      due("of an index that is not sparse", x.entries(1), i + 1);
    }
    for (int i = 0; i < documents.length; i++) {
      x.remove(0, i);
      many -= entries[i];
      due("entries", x.entries(0), many);
    }
    says("Throws IndexOutOfBoundsException if there is no such index");
    range(0, 2, BOUNDS, (y, index) -> y.entries(index), FULL);
    range(0, 1, BOUNDS, (y, index) -> y.entries(index), RICH);
    refuses("no index", BOUNDS, FRESH, y -> y.entries(0));
    section("Promise 37");
    says("Returns the same, found by all documents.");
    for (Maker state : new Maker[] {RICH, FULL}) {
      for (int index = 0; index < 2; index++) {
        due("entries", state.make().entriesAnew(index), state.make().entries(index));
      }
    }
    due("entries of all documents", full().entriesAnew(0), 3 + 2 + 2 + 57);
    says("Throws IndexOutOfBoundsException if there is no such index");
    range(0, 2, BOUNDS, (y, index) -> y.entriesAnew(index), FULL);
    range(0, 1, BOUNDS, (y, index) -> y.entriesAnew(index), RICH);
    refuses("no index", BOUNDS, FRESH, y -> y.entriesAnew(0));
  }

  static void promises38And39() {
    section("Promise 38");
    says("Tells of a chunk: 0 its first key, 1 its shard, 2 how many documents it has, 3 whether it moves (1 or 0).");
    int[][] chunks = {{0, 0, 1, 0}, {100, 0, 2, 1}, {334, 1, 1, 0}, {667, 2, 1, 0}};
    for (int chunk = 0; chunk < 4; chunk++) {
      for (int what = 0; what < 4; what++) {
        due("chunk(" + chunk + ", " + what + ")", rich().chunk(chunk, what), chunks[chunk][what]);
      }
    }
    due("59 documents", full().chunk(0, 2), 57);
    says("- what: 0 to 3");
    range(0, 3, ARGUMENT, (x, what) -> x.chunk(2, what), ALL);
    says("Throws IndexOutOfBoundsException if there is no such chunk");
    range(0, 2, BOUNDS, (x, chunk) -> x.chunk(chunk, 0), FRESH);
    range(0, 3, BOUNDS, (x, chunk) -> x.chunk(chunk, 4), RICH);
    range(0, 11, BOUNDS, (x, chunk) -> x.chunk(chunk, 3), FULL);
    says("Throws IllegalArgumentException if what is out of range");
    range(0, 3, ARGUMENT, (x, what) -> x.chunk(11, what), FULL);
    section("Promise 39");
    says("Tells of a shard: 0 how many documents lie there, 1 how many orphans, 2 how many copies of a chunk that"
        + " moves there.");
    dueShards("while one moves", rich(), 3, 0, 0, 1, 0, 0, 1, 0, 1);
    dueShards("when one has moved", full(), 58, 1, 0, 1, 0, 0, 1, 0, 0);
    says("- shard: 0 to 2");
    range(0, 2, ARGUMENT, (x, shard) -> x.shard(shard, 2), ALL);
    says("- what: 0 to 2");
    range(0, 2, ARGUMENT, (x, what) -> x.shard(2, what), ALL);
    says("Throws IllegalArgumentException if shard or what is out of range");
    range(0, 2, ARGUMENT, (x, shard) -> x.shard(shard, 0), RICH);
    range(0, 2, ARGUMENT, (x, what) -> x.shard(0, what), RICH);
    throwsBy("both", new Shardmoor(), ARGUMENT, x -> x.shard(3, 3));
  }

  static void promise40() {
    section("Promise 40");
    says("Tells of a router: 0 its version, 1 how often it was stale.");
    Shardmoor x = new Shardmoor();
    for (int router = 0; router < 2; router++) {
      due("version", x.router(router, 0), 1);
      due("stale", x.router(router, 1), 0);
    }
    x.split(0, 5);
    x.split(0, 3);
    x.find(0);
    int[][] told = {{3, 1}, {1, 0}};
    for (int router = 0; router < 2; router++) {
      for (int what = 0; what < 2; what++) {
        due("router(" + router + ", " + what + ")", x.router(router, what), told[router][what]);
      }
    }
    x.find(0);
    due("not stale any more", x.router(0, 1), 1);
    x.split(0, 2);
    x.find(1);
    due("version", x.router(1, 0), 4);
    due("stale", x.router(1, 1), 1);
    says("- router: 0 or 1");
    range(0, 1, ARGUMENT, (y, router) -> y.router(router, 1), ALL);
    says("- what: 0 or 1");
    range(0, 1, ARGUMENT, (y, what) -> y.router(1, what), ALL);
    says("Throws IllegalArgumentException if router or what is out of range");
    range(0, 1, ARGUMENT, (y, router) -> y.router(router, 0), RICH);
    range(0, 1, ARGUMENT, (y, what) -> y.router(0, what), RICH);
    throwsBy("both", x, ARGUMENT, y -> y.router(2, 2));
  }

  static void promises41And42() {
    section("Promise 41");
    says("Returns the next entry of the stream.");
    Shardmoor x = new Shardmoor();
    insert(x, 5, "{0:1}");
    insert(x, 6, "{0:400}");
    update(x, 5, 0, SET, "999");
    update(x, 5, 0, SET, "999");
    x.remove(0, 6);
    due("next", x.next(2), 3);
    says("- token: any");
    for (int token : new int[] {FAR[0], FAR[0] + 1, -2, -1}) {
      due("below all", x.next(token), 1);
    }
    for (int token : new int[] {4, 5, 1000, FAR[1] - 1, FAR[1]}) {
      due("above all", x.next(token), -1);
    }
    says("Returns its time, the least above the token; -1 if there is none.");
    for (int token = 0; token < 4; token++) {
      due("the least above " + token, x.next(token), token + 1);
    }
    due("none", x.next(4), -1);
    for (int token : new int[] {FAR[0], -1, 0, 1, FAR[1]}) {
      due("no entries", new Shardmoor().next(token), -1);
    }
    section("Promise 42");
    says("Tells of an entry: 0 what: 0 told, 1 changed, 2 removed; 1 the document, 2 the shard.");
    dueChange("told", x, 1, 0, 5, 0);
    dueChange("told", x, 2, 0, 6, 1);
    dueChange("changed", x, 3, 1, 5, 2);
    dueChange("removed", x, 4, 2, 6, 1);
    says("- time: its time");
    range(1, 60, BOUNDS, (y, time) -> y.change(time, 0), FULL);
    range(1, 5, BOUNDS, (y, time) -> y.change(time, 2), RICH);
    says("- what: 0 to 2");
    range(0, 2, ARGUMENT, (y, what) -> y.change(5, what), RICH, FULL);
    says("Throws IndexOutOfBoundsException if there is no such entry");
    range(1, 5, BOUNDS, (y, time) -> y.change(time, 3), RICH);
    for (int time : new int[] {-1, 0, 1, FAR[0], FAR[1]}) {
      refuses("no entries", BOUNDS, FRESH, y -> y.change(time, 0));
    }
    says("Throws IllegalArgumentException if what is out of range");
    range(0, 2, ARGUMENT, (y, what) -> y.change(1, what), RICH, FULL);
  }

  static void promise43() {
    section("Promise 43");
    says("Returns now.");
    Shardmoor x = new Shardmoor();
    due("now", x.now(), 0);
    x.tick(1);
    due("now", x.now(), 1);
    x.tick(20);
    due("now", x.now(), 21);
    answer(x, y -> y.tick(21));
    due("now", x.now(), 21);
  }

  public static void main(String[] args) {
    promise1();
    promises2To6();
    promise7();
    promise8();
    promise9();
    promise10();
    promise11();
    promise12();
    promise13();
    promise14();
    promise15();
    promise16();
    promise17();
    promises18To20();
    promise21();
    promises22And23();
    promise24();
    promise25();
    promises26To28();
    promises29And30();
    promises31And32();
    promises33To35();
    promises36And37();
    promises38And39();
    promise40();
    promises41And42();
    promise43();
    end();
  }
}
