/** Promises 1 to 4, a new object, feed, end and install: a test for each sentence. */
public final class TrayTest {
  private static final int[] EDGES = {Integer.MIN_VALUE, Integer.MIN_VALUE + 1, -65540, -2, -1};

  public static void main(String[] args) {
    Bench.says("1: nothing in the tray", TrayTest::newTray);
    Bench.says("1: no image", TrayTest::newImage);
    Bench.says("1: an empty stream", TrayTest::newStream);
    Bench.says("1: each object has its own", TrayTest::newObjectsApart);
    Bench.says("2: the twenty bytes of five ints, the highest first, go into the tray", TrayTest::feedOrder);
    Bench.says("2: how many it has then", TrayTest::feedCounts);
    Bench.says("2: -1 if it would have more than 65540", TrayTest::feedFull);
    Bench.says("2: -1, and none does", TrayTest::feedRefused);
    Bench.says("3: only the first n bytes of the tray count", TrayTest::endCuts);
    Bench.says("3: n, from 0 to all of them", TrayTest::endAnswers);
    Bench.says("3: -1, and all stays, if n is below 0", TrayTest::endBelowZero);
    Bench.says("3: -1, and all stays, if it has not so many", TrayTest::endTooLarge);
    Bench.says("4: the tray becomes the image", TrayTest::installReplaces);
    Bench.says("4: the tray is empty", TrayTest::installEmptiesTray);
    Bench.says("4: nothing is open then", TrayTest::installCloses);
    Bench.says("4: the stream is empty", TrayTest::installEmptiesStream);
    Bench.says("4: nothing is left out", TrayTest::installLeavesNothing);
    Bench.says("4: there is no answer", TrayTest::installForgetsAnswer);
    Bench.says("4: how many bytes", TrayTest::installCounts);
    Bench.says("4: -1 if it has more than 65535", TrayTest::installTooLarge);
    Bench.says("4: -1, and all stays", TrayTest::installRefused);
    Bench.finish();
  }

  /** A tray with so many bytes; no run of 512 calls fills it, its limit holds nonetheless. */
  private static void feedTo(RequestReader x, int count) {
    x.end(0);
    Bench.fill(x, new byte[count]);
    Bench.dueInTray("fed", x, count);
  }

  /** An object with an open image, two bytes held, nine to leave out, an answer and three in the tray. */
  private static RequestReader busy() {
    RequestReader x = Bench.opened();
    Bench.come(x, "GET / HTTP/1.0\nContent-Length: 9\n\nab");
    Bench.due("busy: look()", x.look(), 2);
    Bench.due("busy: held()", x.held(), 2);
    Bench.due("busy: left()", x.left(), 9);
    Bench.due("busy: length()", x.length() > 0, true);
    x.feed(0, 0, 0, 0, 0);
    Bench.due("busy: end(3)", x.end(3), 3);
    return x;
  }

  private static void newTray() {
    RequestReader x = new RequestReader();
    Bench.dueInTray("new", x, 0);
    Bench.due("new: install()", x.install(), 0);
  }

  private static void newImage() {
    RequestReader x = new RequestReader();
    Bench.due("new: open()", x.open(), -1);
    Bench.due("new: damage(0, 0)", x.damage(0, 0), false);
    Bench.due("new: look()", x.look(), -1);
    Bench.due("new: come()", x.come(), -1);
  }

  private static void newStream() {
    RequestReader x = new RequestReader();
    Bench.due("new: held()", x.held(), 0);
    Bench.due("new: left()", x.left(), 0);
    Bench.due("new: length()", x.length(), 0);
    Bench.due("new: at(0)", x.at(0), -1);
  }

  private static void newObjectsApart() {
    RequestReader other = busy();
    newTray();
    newImage();
    newStream();
    Bench.dueInTray("the other", other, 3);
    Bench.due("the other's held()", other.held(), 2);
  }

  private static void feedOrder() {
    StringBuilder content = new StringBuilder();
    for (int i = 0; i < 20; i++) {
      content.append((char) (255 - 12 * i));
    }
    RequestReader x = Bench.opened(Bench.image(new String[][] {{"/b", content.toString()}}));
    Bench.due("the bytes in their order", Bench.body(x, "/b"), content.toString());
    x = new RequestReader();
    x.feed(0x53544F52, 0, 0xD5CCC2FA, 0x80000000, -1);
    x.install();
    Bench.due("an image of one feed", x.open(), 0);
  }

  private static void feedCounts() {
    RequestReader x = new RequestReader();
    Bench.due("feed into nothing", x.feed(-1, -1, -1, -1, -1), 20);
    Bench.due("feed once more", x.feed(0, 0, 0, 0, 0), 40);
    x.end(1);
    Bench.due("feed behind one byte", x.feed(0, 0, 0, 0, 0), 21);
  }

  private static void feedFull() {
    RequestReader x = new RequestReader();
    for (int i = 1; i <= 3277; i++) {
      Bench.due("feed number " + i, x.feed(i, i, i, i, i), 20 * i);
    }
    Bench.due("feed at 65540", x.feed(0, 0, 0, 0, 0), -1);
    for (int count = 65539; count > 65520; count--) {
      x.end(count);
      Bench.due("feed at " + count, x.feed(0, 0, 0, 0, 0), -1);
    }
    x.end(65520);
    Bench.due("feed to just 65540", x.feed(0, 0, 0, 0, 0), 65540);
    x.end(65519);
    Bench.due("feed to 65539", x.feed(0, 0, 0, 0, 0), 65539);
  }

  private static void feedRefused() {
    String content = "\u0007".repeat(65535 - 76);
    RequestReader x = new RequestReader();
    Bench.fill(x, Bench.image(new String[][] {{"/b", content}}));
    Bench.due("feed at 65535", x.feed(-1, -1, -1, -1, -1), -1);
    Bench.due("feed at 65535 again", x.feed(-1, -1, -1, -1, -1), -1);
    Bench.dueInTray("after a refused feed", x, 65535);
    Bench.due("install()", x.install(), 65535);
    Bench.due("open()", x.open(), 1);
    Bench.due("the bytes are as before", Bench.body(x, "/b"), content);
  }

  private static void endCuts() {
    RequestReader x = Bench.opened();
    Bench.fill(x, Bench.bytes("GET /a.txt##########"));
    Bench.due("end(10)", x.end(10), 10);
    Bench.due("those behind do not count any more", x.end(11), -1);
    Bench.fillMore(x, 10, " HTTP/1.0\n\n");
    Bench.due("come()", x.come(), 21);
    Bench.due("look()", x.look(), 2);
    Bench.due("the first ten and those fed later", Bench.answer(x),
        Bench.successHead(Bench.TEXT, "text/plain", true) + Bench.TEXT);
  }

  private static void endAnswers() {
    RequestReader x = new RequestReader();
    Bench.due("end(0) in an empty tray", x.end(0), 0);
    x.feed(1, 2, 3, 4, 5);
    for (int n = 20; n >= 0; n--) {
      Bench.due("end(" + n + ")", x.end(n), n);
      Bench.due("end(" + n + ") again", x.end(n), n);
    }
  }

  private static void endBelowZero() {
    RequestReader x = new RequestReader();
    for (int n : EDGES) {
      Bench.due("empty: end(" + n + ")", x.end(n), -1);
      Bench.dueInTray("empty: end(" + n + ")", x, 0);
    }
    x.feed(1, 2, 3, 4, 5);
    for (int n : EDGES) {
      Bench.due("end(" + n + ")", x.end(n), -1);
      Bench.dueInTray("end(" + n + ")", x, 20);
    }
  }

  private static void endTooLarge() {
    RequestReader x = new RequestReader();
    Bench.due("end(1) in an empty tray", x.end(1), -1);
    x.feed(1, 2, 3, 4, 5);
    for (int n : new int[] {21, 22, 40, 256, 65540, Integer.MAX_VALUE}) {
      Bench.due("end(" + n + ")", x.end(n), -1);
      Bench.dueInTray("end(" + n + ")", x, 20);
    }
    feedTo(x, 65540);
    Bench.due("end(65541)", x.end(65541), -1);
    Bench.dueInTray("the fullest tray", x, 65540);
  }

  private static void installReplaces() {
    RequestReader x = Bench.opened();
    Bench.fill(x, Bench.image(new String[][] {{"/new", "n"}}));
    x.install();
    Bench.due("open()", x.open(), 1);
    Bench.due("the new file", Bench.body(x, "/new"), "n");
    Bench.due("the old file", Bench.body(x, "/a.txt"), "404 Not Found\n");
    x.end(0);
    Bench.due("install() with an empty tray", x.install(), 0);
    Bench.due("the image is empty", x.damage(0, 1), false);
    Bench.due("an empty image", x.open(), -1);
    Bench.fill(x, new byte[13]);
    x.install();
    Bench.due("its last byte", x.damage(12, 1), true);
    Bench.due("nothing of a longer one before", x.damage(13, 1), false);
  }

  private static void installEmptiesTray() {
    RequestReader x = busy();
    Bench.due("install()", x.install(), 3);
    Bench.dueInTray("installed", x, 0);
    Bench.due("feed into the empty tray", x.feed(0, 0, 0, 0, 0), 20);
  }

  private static void installCloses() {
    RequestReader x = busy();
    x.end(0);
    Bench.fill(x, Bench.image(Bench.FILES));
    x.install();
    Bench.due("look()", x.look(), -1);
    Bench.due("come()", x.come(), -1);
    x.feed(0, 0, 0, 0, 0);
    Bench.due("come() with bytes", x.come(), -1);
  }

  private static void installEmptiesStream() {
    RequestReader x = busy();
    x.install();
    Bench.due("held()", x.held(), 0);
    Bench.fill(x, Bench.image(Bench.FILES));
    x.install();
    x.open();
    Bench.due("held() when opened", x.held(), 0);
    Bench.due("come()", Bench.come(x, "abc"), 3);
  }

  private static void installLeavesNothing() {
    RequestReader x = busy();
    x.install();
    Bench.due("left()", x.left(), 0);
    Bench.fill(x, Bench.image(Bench.FILES));
    x.install();
    x.open();
    Bench.due("a request is no body", Bench.body(x, "/a.txt"), Bench.TEXT);
  }

  private static void installForgetsAnswer() {
    RequestReader x = busy();
    x.install();
    Bench.due("length()", x.length(), 0);
    Bench.due("at(0)", x.at(0), -1);
  }

  private static void installCounts() {
    for (int count : new int[] {0, 1, 19, 20, 21, 255, 256, 257, 65534, 65535}) {
      RequestReader x = new RequestReader();
      feedTo(x, count);
      Bench.due("install() of " + count, x.install(), count);
      Bench.due("the last of " + count, x.damage(count - 1, 1), count > 0);
      Bench.due("behind the last of " + count, x.damage(count, 1), false);
    }
  }

  private static void installTooLarge() {
    RequestReader x = new RequestReader();
    for (int count : new int[] {65540, 65539, 65537, 65536}) {
      feedTo(x, count);
      Bench.due("install() of " + count, x.install(), -1);
      x.end(0);
    }
  }

  private static void installRefused() {
    RequestReader x = busy();
    String before = Bench.state(x);
    feedTo(x, 65536);
    Bench.due("install()", x.install(), -1);
    Bench.due("stream and answer", Bench.state(x), before);
    Bench.dueInTray("refused", x, 65536);
    x.end(0);
    Bench.due("a body's rest", Bench.come(x, "cdefghi"), 9);
    Bench.due("look()", x.look(), 0);
    Bench.due("the image is still open", Bench.body(x, "/a.txt"), Bench.TEXT);
    Bench.due("and can be opened", x.open(), 3);
    feedTo(x, 65535);
    Bench.due("a byte less is not refused", x.install(), 65535);
  }
}
