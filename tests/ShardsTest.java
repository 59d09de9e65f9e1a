/**
 * The sentences of ../shared/DOC.md on shards, moves and routers that name a boundary case,
 * each with a test of its own. With the document at hand it is also checked that no clause is left out.
 */
public final class ShardsTest extends Kit {

  // ---- Shards

  static void shards() {
    section("Shards");
    says("There are the shards 0 to 2.");
    for (Maker state : ALL) {
      for (int shard : new int[] {-1, 3}) {
        refuses("shard", ARGUMENT, state, x -> x.shard(shard, 0));
        refuses("clean", ARGUMENT, state, x -> x.clean(shard));
        refuses("move", ARGUMENT, state, x -> x.move(0, shard));
      }
      for (int shard = 0; shard < 3; shard++) {
        int one = shard;
        due("shard " + shard, answer(state.make(), x -> x.shard(one, 2)) == ARGUMENT, false);
        due("clean " + shard, answer(state.make(), x -> x.clean(one)) == ARGUMENT, false);
        due("move to " + shard, answer(state.make(), x -> x.move(0, one)) == ARGUMENT, false);
      }
    }
  }

  private static int shardAtFirst(int key) {
    return key <= 333 ? 0 : key <= 666 ? 1 : 2;
  }

  private static void dueKey(Shardmoor x, String value, int key) {
    due("key of " + value, x.document(0, 1), key);
    due("shard of " + value, x.document(0, 0), shardAtFirst(key));
  }

  static void keys() {
    says("A document has a key, 0 to 999: of the key's field, 0 at first, a number is its key, 0 if it is below 0,"
        + " other values and a missing one have 0");
    dueKey(with("{0:5,1:6}"), "5", 5);
    dueKey(with("{}"), "a missing one", 0);
    dueKey(with("{1:6}"), "a missing one", 0);
    for (int field = 0; field < 8; field++) {
      for (String other : new String[] {"_", "w99", "w0", "[500]", "{0:500}", "[]"}) {
        Shardmoor x = with("{" + field + ":" + other + "}");
        x.key(field, false);
        dueKey(x, other, 0);
        x.key(field, true);
        int word = other.startsWith("w") ? Integer.parseInt(other.substring(1)) : -1;
        dueKey(x, other, word < 0 ? 250 : (104729 * word + 500) % 1000);
      }
      Shardmoor x = with("{" + field + ":700}", "{}");
      x.key((field + 1) % 8, false);
      dueKey(x, "another field", 0);
      x.key((field + 1) % 8, true);
      dueKey(x, "another field, hashed", 250);
      x.key(field, false);
      dueKey(x, "700 in the key's field", 700);
    }
    numbers(false);
    says("if the key is hashed, it is the remainder by 1000 of 7919 times the sum of the number and 1000, for a"
        + " number, of 104729 times the word, and 500, for a word, and 250 for all others");
    numbers(true);
    for (int word = 0; word < 100; word++) {
      Shardmoor x = with("{0:w" + word + "}");
      x.key(0, true);
      dueKey(x, "w" + word, (104729 * word + 500) % 1000);
    }
    for (String pair : new String[] {"-999 919", "-1 81", "0 0", "1 919", "999 81", "w0 500", "w1 229", "w99 671", "_ 250",
        "[] 250", "{} 250"}) {
      Shardmoor x = with("{0:" + pair.split(" ")[0] + "}");
      x.key(0, true);
      dueKey(x, pair, Integer.parseInt(pair.split(" ")[1]));
    }
    Shardmoor x = with("{}");
    x.key(0, true);
    dueKey(x, "a missing one", 250);
  }

  private static void numbers(boolean isHashed) {
    for (int first = -999; first <= 999; first += 100) {
      Shardmoor x = with("{}");
      x.key(0, isHashed);
      for (int number = first; number < first + 100 && number <= 999; number++) {
        x.number(number);
        x.update(0, 0, 0, SET);
        dueKey(x, number + (isHashed ? " hashed" : ""), isHashed ? 7919 * (number + 1000) % 1000 : Math.max(0, number));
      }
    }
  }

  static void chunks() {
    says("Chunks are stretches of keys, from one to ahead of the next one's, in order, at most 12, each of a shard");
    Shardmoor x = new Shardmoor();
    int[] cuts = {900, 100, 999, 1, 334 + 1, 333, 666, 500, 998};
    for (int i = 0; i < cuts.length; i++) {
      int chunk = 0;
      while (chunk < 2 + i && x.chunk(chunk + 1, 0) <= cuts[i]) {
        chunk++;
      }
      due("chunks", x.split(chunk, cuts[i]), 4 + i);
    }
    int[] firsts = {0, 1, 100, 333, 334, 335, 500, 666, 667, 900, 998, 999};
    int[] shards = {0, 0, 0, 0, 1, 1, 1, 1, 2, 2, 2, 2};
    for (int chunk = 0; chunk < 12; chunk++) {
      due("first key of " + chunk, x.chunk(chunk, 0), firsts[chunk]);
      due("shard of " + chunk, x.chunk(chunk, 1), shards[chunk]);
    }
    throwsBy("a 13th", x, STATE, y -> y.split(9, 950));
    throwsBy("chunk 12", x, BOUNDS, y -> y.chunk(12, 0));
    refuses("a 13th chunk", STATE, FULL, y -> y.split(11, 800));
    refuses("a 13th chunk", STATE, FULL, y -> y.split(9, 100));
    says("at first 0 to 333 of the shard 0, 334 to 666 of 1, 667 to 999 of 2");
    Shardmoor first = with("{0:0}", "{0:333}", "{0:334}", "{0:666}", "{0:667}", "{0:999}");
    for (int chunk = 0; chunk < 3; chunk++) {
      due("first key", first.chunk(chunk, 0), new int[] {0, 334, 667}[chunk]);
      due("shard", first.chunk(chunk, 1), chunk);
      due("documents", first.chunk(chunk, 2), 2);
      due("shard of its lowest key", first.document(2 * chunk, 0), chunk);
      due("shard of its greatest key", first.document(2 * chunk + 1, 0), chunk);
    }
    throwsBy("no fourth", first, BOUNDS, y -> y.chunk(3, 0));
    says("A document lies in the shard of its chunk.");
    int[] moved = {0, 2, 0, 1, 1, 0, 2, 1, 2, 0, 2, 1};
    for (int part = 0; part < 10; part++) {
      Shardmoor y = new Shardmoor();
      for (int chunk = 0; chunk < 11; chunk++) {
        if (firsts[chunk + 1] != 334 && firsts[chunk + 1] != 667) {
          y.split(chunk, firsts[chunk + 1]);
        }
      }
      for (int chunk = 0; chunk < 12; chunk++) {
        if (y.chunk(chunk, 1) != moved[chunk]) {
          y.move(chunk, moved[chunk]);
          y.handOver();
        }
      }
      insert(y, 0, "{}");
      for (int key = 100 * part; key < 100 * part + 100; key++) {
        update(y, 0, 0, SET, "" + key);
        int chunk = 0;
        while (chunk < 11 && firsts[chunk + 1] <= key) {
          chunk++;
        }
        due("shard of the key " + key, y.document(0, 0), moved[chunk]);
      }
    }
  }

  /** Documents 2, 4, 7 and 9 in the first chunk, told in another order, and 30 in the second. */
  private static Shardmoor four() {
    Shardmoor x = new Shardmoor();
    insert(x, 9, "{0:1}");
    insert(x, 4, "{0:2}");
    insert(x, 30, "{0:400}");
    insert(x, 7, "{0:3}");
    insert(x, 2, "{0:4}");
    return x;
  }

  static void copies() {
    says("A chunk that moves to another shard: its documents are copied, by rising numbers, some with each step");
    for (int many = 1; many <= 4; many++) {
      int[] numbers = {2, 4, 7, 9};
      for (int i = 0; i < 4; i++) {
        Shardmoor x = four();
        due("to be copied", x.move(0, 2), 4);
        due("left", x.copy(many), 4 - many);
        dueShards("copies", x, 4, 0, 0, 1, 0, 0, 0, 0, many);
        x.remove(0, numbers[i]);
        due("copies when " + numbers[i] + " is removed", x.shard(2, 2), i < many ? many - 1 : many);
        due("left when it is removed", x.copy(1), Math.max(0, i < many ? 3 - many : 2 - many));
      }
    }
    Shardmoor x = four();
    x.move(0, 1);
    due("more than there are", x.copy(20), 0);
    due("none is left", x.copy(1), 0);
    due("copies", x.shard(1, 2), 4);
    Shardmoor many = new Shardmoor();
    for (int i = 0; i < 41; i++) {
      insert(many, i, "{}");
    }
    due("to be copied", many.move(0, 1), 41);
    due("20 at most", many.copy(20), 21);
    due("20 at most", many.copy(20), 1);
    throwsBy("one is left", many, STATE, y -> y.handOver());
    due("the last", many.copy(20), 0);
    due("all", many.handOver(), 41);
  }

  static void writesWhileMoving() {
    says("those that are changed, copied ahead or not, or come meanwhile are copied as well, at once");
    Shardmoor x = four();
    x.move(0, 2);
    x.copy(2);
    update(x, 2, 1, SET, "1");
    due("copied ahead", x.shard(2, 2), 2);
    update(x, 9, 1, SET, "1");
    due("not copied ahead", x.shard(2, 2), 3);
    update(x, 7, 0, SET, "3");
    due("an update that changes nothing copies nothing", x.shard(2, 2), 3);
    update(x, 30, 1, SET, "1");
    due("of another chunk", x.shard(2, 2), 3);
    insert(x, 31, "{0:333}");
    due("told", x.shard(2, 2), 4);
    insert(x, 32, "{0:334}");
    due("told in another chunk", x.shard(2, 2), 4);
    update(x, 30, 0, SET, "0");
    due("from another chunk", x.shard(2, 2), 5);
    due("left", x.copy(1), 0);
    due("documents", x.handOver(), 6);
    dueShards("handed over", x, 0, 6, 0, 1, 0, 0, 6, 0, 0);
    says("those that go go there, too");
    x = four();
    x.move(0, 2);
    x.copy(3);
    x.remove(0, 4);
    due("removed", x.shard(2, 2), 2);
    x.remove(0, 9);
    due("removed, not copied", x.shard(2, 2), 2);
    update(x, 2, 0, SET, "334");
    due("to another chunk", x.shard(2, 2), 1);
    x.expire(0);
    due("expired", x.tick(3), 1);
    due("no copy", x.shard(2, 2), 0);
    insert(x, 4, "{0:8}");
    due("come again", x.shard(2, 2), 1);
    update(x, 2, 0, SET, "9");
    due("come back", x.shard(2, 2), 2);
    due("documents", x.handOver(), 2);
    for (int number : new int[] {0, 99}) {
      x = with("{0:1}", "{0:1}");
      insert(x, 99, "{0:3}");
      x.move(0, 1);
      x.copy(3);
      x.remove(0, number);
      due("number " + number + " is removed", x.shard(1, 2), 2);
      insert(x, number, "{0:3}");
      due("number " + number + " comes again", x.shard(1, 2), 3);
      update(x, number, 0, SET, "500");
      due("number " + number + " goes to another chunk", x.shard(1, 2), 2);
      due("left", x.copy(1), 0);
    }
    says("when all are copied, it can be handed over");
    refuses("none is copied", STATE, () -> moving(0), y -> y.handOver());
    refuses("one is not copied", STATE, () -> moving(3), y -> y.handOver());
    due("all are copied", moving(4).handOver(), 4);
    x = moving(3);
    update(x, 9, 1, SET, "1");
    due("the last one by a change", x.handOver(), 4);
    x = moving(3);
    x.remove(0, 9);
    due("the last one is removed", x.handOver(), 3);
    x = moving(3);
    update(x, 9, 0, SET, "999");
    due("the last one goes to another chunk", x.handOver(), 3);
    x = new Shardmoor();
    x.move(1, 2);
    due("an empty chunk", x.handOver(), 0);
    says("then it is of the other shard");
    x = moving(4);
    due("ahead of that", x.chunk(0, 1), 0);
    due("a document ahead of that", x.document(9, 0), 0);
    x.handOver();
    due("the chunk", x.chunk(0, 1), 2);
    due("it moves no more", x.chunk(0, 3), 0);
    due("others stay", x.chunk(1, 1), 1);
    due("a document", x.document(9, 0), 2);
    due("a new one", insert(x, 50, "{0:333}"), 2);
    throwsBy("none moves", x, STATE, y -> y.copy(1));
  }

  /** The four documents, so many copied. */
  private static Shardmoor moving(int copied) {
    Shardmoor x = four();
    x.move(0, 2);
    if (copied > 0) {
      x.copy(copied);
    }
    return x;
  }

  static void orphans() {
    says("What is left in the first shard are so many orphans more, which are nothing any more, until they are"
        + " cleaned.");
    Shardmoor x = moving(4);
    x.index(0, false);
    due("entries", x.entries(0), 5);
    x.handOver();
    dueShards("handed over", x, 0, 4, 0, 1, 0, 0, 4, 0, 0);
    due("documents", x.documents(), 5);
    due("found", x.find(0), 5);
    due("entries", x.entries(0), 5);
    due("entries anew", x.entriesAnew(0), 5);
    x.move(0, 0);
    x.copy(20);
    x.handOver();
    dueShards("and back", x, 4, 4, 0, 1, 0, 0, 0, 4, 0);
    x.remove(0, 9);
    x.move(0, 2);
    x.copy(20);
    x.handOver();
    dueShards("so many more", x, 0, 7, 0, 1, 0, 0, 3, 4, 0);
    x.move(1, 0);
    x.copy(20);
    x.handOver();
    dueShards("of another shard", x, 1, 7, 0, 0, 1, 0, 3, 4, 0);
    due("clean", x.clean(0), 7);
    due("none are left", x.clean(0), 0);
    dueShards("cleaned", x, 1, 0, 0, 0, 1, 0, 3, 4, 0);
    due("documents", x.documents(), 4);
    says("A move can be given up: the copies that there are then are gone");
    x = moving(3);
    due("copies", x.giveUp(), 3);
    dueShards("given up", x, 4, 0, 0, 1, 0, 0, 0, 0, 0);
    due("its shard", x.chunk(0, 1), 0);
    due("it moves no more", x.chunk(0, 3), 0);
    throwsBy("none moves", x, STATE, y -> y.giveUp());
    throwsBy("none moves", x, STATE, y -> y.copy(1));
    throwsBy("none moves", x, STATE, y -> y.handOver());
    update(x, 9, 1, SET, "1");
    due("no copy", x.shard(2, 2), 0);
    due("all have to be copied again", x.move(0, 2), 4);
    dueShards("none is copied", x, 4, 0, 0, 1, 0, 0, 0, 0, 0);
    due("none", x.giveUp(), 0);
    due("to another shard", x.move(0, 1), 4);
    x.copy(4);
    due("all are copied", x.giveUp(), 4);
    x = moving(3);
    x.remove(0, 2);
    due("one is gone", x.giveUp(), 2);
    due("an empty chunk", new Shardmoor().move(0, 2), 0);
  }

  static void noneElse() {
    says("A chunk that moves cannot be split, and no other can move, nor the key be changed.");
    for (int copied : new int[] {0, 2, 4}) {
      Maker state = () -> moving(copied);
      refuses("split", STATE, state, x -> x.split(0, 1));
      refuses("split", STATE, state, x -> x.split(0, 333));
      refuses("another", STATE, state, x -> x.move(1, 2));
      refuses("another", STATE, state, x -> x.move(2, 0));
      refuses("the same", STATE, state, x -> x.move(0, 1));
      refuses("the same", STATE, state, x -> x.move(0, 2));
      refuses("key", STATE, state, x -> x.key(1, false));
      refuses("key", STATE, state, x -> x.key(0, true));
    }
    Shardmoor x = moving(4);
    due("another is split", x.split(1, 400), 4);
    due("another is split", x.split(3, 999), 5);
    x.handOver();
    due("split when handed over", x.split(0, 3), 6);
    due("another", x.move(2, 0), 0);
    x.giveUp();
    due("key when given up", x.key(1, false), 5);
    x = new Shardmoor();
    x.move(2, 0);
    x.split(1, 500);
    x.split(0, 100);
    due("the same one moves, behind those", x.chunk(4, 3), 1);
    due("not the one in its old place", x.chunk(2, 3), 0);
    x.handOver();
    due("its shard", x.chunk(4, 1), 0);
    due("the one in its old place", x.chunk(2, 1), 1);
  }

  static void versions() {
    says("The map is the chunks; its version is 1 at first, and 1 more with each split, each chunk that is handed"
        + " over, and each new key (by which chunks are as at first, and there are no orphans)");
    Shardmoor x = four();
    dueVersion("at first", x, 1);
    x.split(0, 3);
    dueVersion("split", x, 2);
    x.split(3, 700);
    dueVersion("split", x, 3);
    x.move(0, 1);
    x.copy(2);
    dueVersion("not by a move that begins", x, 3);
    x.handOver();
    dueVersion("handed over", x, 4);
    x.move(1, 2);
    x.copy(2);
    x.giveUp();
    x.clean(0);
    answer(x, y -> y.split(0, 0));
    answer(x, y -> y.handOver());
    answer(x, y -> y.key(8, false));
    x.remove(0, 30);
    x.index(0, true);
    x.expire(0);
    x.tick(1);
    dueVersion("nor by others", x, 4);
    x.move(0, 2);
    x.copy(20);
    x.handOver();
    dueVersion("handed over", x, 5);
    due("orphans", x.shard(1, 1) > 0, true);
    x.key(0, true);
    dueVersion("key", x, 6);
    for (int chunk = 0; chunk < 3; chunk++) {
      due("first key as at first", x.chunk(chunk, 0), new int[] {0, 334, 667}[chunk]);
      due("shard as at first", x.chunk(chunk, 1), chunk);
      due("no orphans", x.shard(chunk, 1), 0);
    }
    throwsBy("no more chunks", x, BOUNDS, y -> y.chunk(3, 0));
    x.key(0, true);
    dueVersion("key", x, 7);
  }

  private static void dueVersion(String what, Shardmoor x, int version) {
    x.find(1);
    due(what + ": version", x.router(1, 0), version);
  }

  static void routers() {
    says("A router, 0 or 1, has a version of its own, 1 at first");
    for (int router = 0; router < 2; router++) {
      Shardmoor x = new Shardmoor();
      due("version at first", x.router(router, 0), 1);
      due("stale at first", x.router(router, 1), 0);
      x.find(router);
      due("not stale", x.router(router, 1), 0);
      x.split(0, 9);
      x.find(router);
      due("the other's", x.router(1 - router, 0), 1);
      due("the other's", x.router(1 - router, 1), 0);
      due("its own", x.router(router, 0), 2);
      due("its own", x.router(router, 1), 1);
    }
    for (int router : new int[] {-1, 2}) {
      refuses("insert", ARGUMENT, x -> x.insert(router, 50));
      refuses("update", ARGUMENT, x -> x.update(router, 3, 0, 0) ? 1 : 0);
      refuses("remove", ARGUMENT, x -> x.remove(router, 3));
      refuses("find", ARGUMENT, x -> x.find(router));
      refuses("router", ARGUMENT, x -> x.router(router, 0));
    }
    says("when it is used and that is not the map's, it is stale once more, and has it then");
    Shardmoor x = with("{}");
    x.split(0, 9);
    x.split(0, 8);
    x.key(0, false);
    due("not used", x.router(0, 0), 1);
    due("not used", x.router(0, 1), 0);
    insert(x, 1, "{}");
    due("used by insert", x.router(0, 0), 4);
    due("once", x.router(0, 1), 1);
    x.find(0);
    due("it has it", x.router(0, 1), 1);
    x.split(0, 7);
    update(x, 1, 0, SET, "1");
    due("used by update", x.router(0, 0), 5);
    due("once more", x.router(0, 1), 2);
    x.split(0, 6);
    x.remove(0, 1);
    due("used by remove", x.router(0, 0), 6);
    due("once more", x.router(0, 1), 3);
    x.split(0, 5);
    x.find(0);
    due("used by find", x.router(0, 0), 7);
    due("once more", x.router(0, 1), 4);
    x.split(0, 4);
    x.group(0, 0);
    x.findAnew();
    x.tick(1);
    x.rule(0, 0);
    x.index(0, true);
    due("used by no other", x.router(0, 0), 7);
  }

  public static void main(String[] args) {
    shards();
    keys();
    chunks();
    copies();
    writesWhileMoving();
    orphans();
    noneElse();
    versions();
    routers();
    end();
  }
}
