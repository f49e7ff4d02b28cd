import java.util.List;
import java.util.function.Function;

/** Promise 12, damage, and term 3 on entries, answers and refused calls: a test for each sentence. */
public final class DamageTest {
  private static final byte[] IMAGE = Bench.image(Bench.FILES);
  private static final int PLACE = 12 + 3 * 64 + Bench.HTML.length();
  private static final int CALLS_TO_OPEN = (IMAGE.length + 19) / 20 + 3;
  private static final int[] NO_PLACES = {-1, -2, IMAGE.length, IMAGE.length + 1, 65535, 65536, Integer.MIN_VALUE,
      Integer.MAX_VALUE, -IMAGE.length};

  public static void main(String[] args) {
    Bench.says("12: byte place of the image becomes value: true", DamageTest::becomes);
    Bench.says("12: value & 255", DamageTest::lowestBits);
    Bench.says("12: false if there is none", DamageTest::noPlace);
    Bench.says("12: false in an object without an image", DamageTest::noImage);
    Bench.says("12: an image that is not open can be damaged, and mended", DamageTest::notOpen);
    Bench.says("term 3: damage changes bytes of files by being looked at each time", DamageTest::eachTime);
    Bench.says("term 3: entries count as they were when the image was opened", DamageTest::entries);
    Bench.says("term 3: until it is opened again", DamageTest::openedAgain);
    Bench.says("term 3: damage done later does not show in the answer", DamageTest::answers);
    Bench.says("term 3: a call that is refused changes nothing", DamageTest::refusedCalls);
    Bench.says("an object is used for 512 calls", DamageTest::manyCalls);
    Bench.says("an object is used for 512 calls of one kind", DamageTest::manyCallsOfOneKind);
    Bench.says("an object is used for 512 calls, half of them with answers", DamageTest::manyAnswers);
    Bench.finish();
  }

  private static String get(RequestReader x) {
    return Bench.number(x, "GET /a.txt HTTP/1.1\nHost:\n\n");
  }

  private static void becomes() {
    RequestReader x = Bench.opened();
    Bench.due("the first byte", x.damage(0, 'S'), true);
    Bench.due("the last byte", x.damage(IMAGE.length - 1, 1), true);
    Bench.due("the last file's last byte", get(x), "2 500");
    byte[] whole = Bench.image(new byte[][] {Bench.entry("/all", 0, 76 + 3, Bench.crc(new byte[79], 79))}, new byte[3]);
    x = Bench.opened(whole);
    for (int i = 0; i < whole.length; i++) {
      Bench.due("byte " + i, x.damage(i, 0), true);
    }
    Bench.due("every byte is 0", Bench.body(x, "/all"), "\0".repeat(79));
  }

  private static void lowestBits() {
    RequestReader x = Bench.opened();
    for (int value : new int[] {'p' + 256, 'p' - 256, 'p' | 0x7FFFFF00, 'p' | 0x80000000, 'p'}) {
      x.damage(PLACE, 0);
      Bench.due("broken", get(x), "2 500");
      Bench.due("value " + value, x.damage(PLACE, value), true);
      Bench.due("mended with " + value, get(x), "1 200");
    }
    byte[] content = {0, (byte) 255, (byte) 128, 0, 0};
    byte[][] entries = {Bench.entry("/b", 76, 5, Bench.crc(content, 5))};
    x = Bench.opened(Bench.image(entries, Bench.bytes("abcde")));
    int[] values = {256, -1, 128, Integer.MIN_VALUE, 0};
    for (int i = 0; i < 5; i++) {
      x.damage(76 + i, values[i]);
    }
    Bench.due("the edges of a byte", Bench.body(x, "/b"), Bench.text(content));
  }

  private static void noPlace() {
    RequestReader x = Bench.opened();
    for (int place : NO_PLACES) {
      Bench.due("damage(" + place + ", 1)", x.damage(place, 1), false);
    }
    Bench.due("nothing has changed", get(x), "1 200");
    Bench.due("nor in the head", x.open(), 3);
  }

  private static void noImage() {
    RequestReader x = new RequestReader();
    Bench.due("without an image", x.damage(0, 0), false);
    x.feed(1, 2, 3, 4, 5);
    Bench.due("the tray is no image", x.damage(0, 0), false);
    x.end(0);
    x.install();
    Bench.due("an empty image", x.damage(0, 0), false);
    Bench.due("an empty image", x.damage(-1, 0), false);
  }

  private static void notOpen() {
    byte[] wrong = IMAGE.clone();
    wrong[1] = 0;
    RequestReader x = Bench.installed(wrong);
    Bench.due("not right", x.open(), -1);
    Bench.due("damage without open", x.damage(1, 'T'), true);
    Bench.due("right", x.open(), 3);
    Bench.due("served", get(x), "1 200");
  }

  private static void eachTime() {
    RequestReader x = Bench.opened();
    Bench.due("whole", get(x), "1 200");
    x.damage(PLACE, 'P');
    Bench.due("the first byte broken", get(x), "2 500");
    x.damage(PLACE, 'p');
    Bench.due("mended", get(x), "1 200");
    x.damage(PLACE + Bench.TEXT.length() - 1, 0);
    Bench.due("the last byte broken", get(x), "2 500");
    Bench.due("open() does not mind", x.open(), 3);
    Bench.due("still broken", get(x), "2 500");
    x.damage(PLACE + Bench.TEXT.length() - 1, Bench.TEXT.charAt(Bench.TEXT.length() - 1));
    x.damage(PLACE - 1, 0);
    Bench.due("the byte before is another's", get(x), "1 200");
    Bench.due("its file is broken", Bench.body(x, "/"), "500 Internal Server Error\n");
  }

  private static void entries() {
    RequestReader x = Bench.opened();
    for (int i = 0; i < 12 + 3 * 64; i++) {
      x.damage(i, 'x');
    }
    Bench.due("as they were", Bench.body(x, "/a.txt"), Bench.TEXT);
    Bench.due("with the mark of then", Bench.answer(x), Bench.successHead(Bench.TEXT, "text/plain", false)
        + Bench.TEXT);
    Bench.due("open()", x.open(), -1);
    Bench.due("as they were still", Bench.body(x, "/a.txt"), Bench.TEXT);
    Bench.due("no new name", Bench.body(x, "/xxxxx"), "404 Not Found\n");
  }

  private static void openedAgain() {
    byte[] other = IMAGE.clone();
    other[8 + 64 + 1] = 'b';
    Bench.seal(other);
    RequestReader x = Bench.opened();
    for (int i = 0; i < IMAGE.length; i++) {
      if (IMAGE[i] != other[i]) {
        x.damage(i, other[i]);
      }
    }
    Bench.due("the old name before open()", Bench.body(x, "/a.txt"), Bench.TEXT);
    Bench.due("the new name before open()", Bench.body(x, "/b.txt"), "404 Not Found\n");
    Bench.due("a right image again", x.open(), 3);
    Bench.due("the old name since", Bench.body(x, "/a.txt"), "404 Not Found\n");
    Bench.due("the new name since", Bench.body(x, "/b.txt"), Bench.TEXT);
  }

  private static void answers() {
    RequestReader x = Bench.opened();
    get(x);
    String answer = Bench.answer(x);
    for (int i = 0; i < IMAGE.length; i++) {
      x.damage(i, 0);
    }
    Bench.due("the answer is as it was then", Bench.answer(x), answer);
    x.open();
    x.look();
    Bench.due("and stays so", Bench.answer(x), answer);
  }

  /** Each kind of refusal in an object that has something everywhere, with all that can be seen of it. */
  private static void refusedCalls() {
    RequestReader x = Bench.opened();
    Bench.come(x, "GET / HTTP/1.0\nContent-Length: 9\n\nab");
    x.look();
    x.damage(7, 1);
    Bench.fill(x, new byte[65540]);
    String before = Bench.state(x);
    Bench.due("feed()", x.feed(-1, -1, -1, -1, -1), -1);
    Bench.due("end(-1)", x.end(-1), -1);
    Bench.due("end(65541)", x.end(65541), -1);
    Bench.due("install()", x.install(), -1);
    Bench.due("open()", x.open(), -1);
    Bench.due("come()", x.come(), -1);
    Bench.due("at(-1)", x.at(-1), -1);
    for (int place : NO_PLACES) {
      Bench.due("damage(" + place + ", 9)", x.damage(place, 9), false);
    }
    Bench.due("stream and answer", Bench.state(x), before);
    Bench.dueInTray("the tray", x, 65540);
    x.end(0);
    x.damage(7, 0);
    Bench.due("the image", x.open(), 3);
    Bench.come(x, "cdefghi");
    Bench.due("the body", x.look(), 0);
    Bench.due("the files", Bench.body(x, "/a.txt"), Bench.TEXT);
    x = Bench.installed(IMAGE);
    Bench.fill(x, Bench.bytes("GET / HTTP/1.0\n\n"));
    Bench.due("look() with nothing open", x.look(), -1);
    Bench.due("come() with nothing open", x.come(), -1);
    x.open();
    Bench.due("the tray as it was", x.come(), 16);
    Bench.due("its request", x.look(), 2);
  }

  private static void manyCalls() {
    RequestReader x = new RequestReader();
    Bench.fill(x, IMAGE);
    x.install();
    x.open();
    int calls = CALLS_TO_OPEN;
    for (; calls + 5 <= 512; calls += 5) {
      x.feed(0x47455420, 0x2F204854, 0x54502F31, 0x2E300A0A, 0);
      x.end(16);
      x.come();
      Bench.due("look() as call " + (calls + 4), x.look(), 2);
      Bench.due("length() as call " + (calls + 5), x.length(),
          Bench.successHead(Bench.HTML, "text/html", true).length() + Bench.HTML.length());
    }
    Bench.due("all 512 calls, or nearly", calls > 507, true);
  }

  private static void manyCallsOfOneKind() {
    List<Function<RequestReader, Object>> kinds = List.of(x -> x.end(0), x -> x.come(), x -> x.look(), x -> x.held(),
        x -> x.left(), x -> x.length(), x -> x.open(), x -> x.at(0), x -> x.damage(PLACE, 'p'));
    List<Object> answers = List.of(0, 0, 0, 0, 0, 0, Bench.FILES.length, -1, true);
    for (int kind = 0; kind < kinds.size(); kind++) {
      RequestReader x = Bench.opened(IMAGE);
      for (int call = CALLS_TO_OPEN + 1; call <= 512; call++) {
        Bench.due("kind " + kind + " as call " + call, kinds.get(kind).apply(x), answers.get(kind));
      }
    }
    RequestReader x = new RequestReader();
    for (int call = 1; call <= 512; call++) {
      Bench.due("feed() as call " + call, x.feed(1, 2, 3, 4, 5), 20 * call);
    }
    x = new RequestReader();
    for (int call = 1; call <= 512; call++) {
      Bench.due("install() as call " + call, x.install(), 0);
    }
  }

  private static void manyAnswers() {
    RequestReader x = Bench.opened(IMAGE);
    String head = "GET / HTTP/1.0\n\n";
    String heads = head.repeat(4096 / head.length());
    int calls = CALLS_TO_OPEN + (heads.length() + 19) / 20 + 2;
    Bench.due("come()", Bench.come(x, heads), 4096);
    for (int left = heads.length() - head.length(); left >= 0; left -= head.length()) {
      calls++;
      Bench.due("look() as call " + calls, x.look(), 2);
    }
    Bench.due("held()", x.held(), 0);
    Bench.due("no more than 512 calls", calls < 512, true);
  }
}
