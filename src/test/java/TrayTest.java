/** Promises 1 to 4: a new object, feed, end and install. */
public final class TrayTest {
  public static void main(String[] args) {
    newObject();
    feed();
    end();
    install();
    installForgets();
    limits();
    Bench.finish();
  }

  private static void newObject() {
    RequestReader x = new RequestReader();
    Bench.due("new: held()", x.held(), 0);
    Bench.due("new: left()", x.left(), 0);
    Bench.due("new: length()", x.length(), 0);
    Bench.due("new: at(0)", x.at(0), -1);
    Bench.due("new: open()", x.open(), -1);
    Bench.due("new: come()", x.come(), -1);
    Bench.due("new: look()", x.look(), -1);
    Bench.due("new: damage(0, 0)", x.damage(0, 0), false);
    Bench.due("new: end(1)", x.end(1), -1);
    Bench.due("new: end(0)", x.end(0), 0);
    Bench.due("new: install()", x.install(), 0);
  }

  private static void feed() {
    RequestReader x = Bench.opened();
    Bench.due("feed 20", x.feed(0x0D0A2F41, -1, 0x80FF0001, 0x474554FF, 0x0A0A0A0A), 20);
    Bench.due("feed 40", x.feed(0, 0, 0, 0, 0), 40);
    Bench.due("the stream has nothing yet", x.held(), 0);
    x = new RequestReader();
    Bench.due("feed the highest first", x.feed(0x53544F52, 0, 0xD5CCC2FA, 0, 0), 20);
    x.end(12);
    x.install();
    Bench.due("open what was fed", x.open(), 0);
  }

  private static void end() {
    RequestReader x = new RequestReader();
    x.feed(1, 2, 3, 4, 5);
    Bench.due("end(21)", x.end(21), -1);
    Bench.due("end(-1)", x.end(-1), -1);
    Bench.due("end(MIN)", x.end(Integer.MIN_VALUE), -1);
    Bench.due("end(MAX)", x.end(Integer.MAX_VALUE), -1);
    Bench.due("a refused end leaves all", x.end(20), 20);
    Bench.due("end(7)", x.end(7), 7);
    Bench.due("cut bytes are gone", x.end(8), -1);
    Bench.due("feed behind the end", x.feed(0, 0, 0, 0, 0), 27);
    Bench.due("end(0)", x.end(0), 0);
    Bench.due("install nothing", x.install(), 0);
  }

  private static void install() {
    RequestReader x = new RequestReader();
    x.feed(1, 2, 3, 4, 5);
    x.end(13);
    Bench.due("install()", x.install(), 13);
    Bench.due("the tray is empty", x.end(1), -1);
    Bench.due("damage within", x.damage(12, 1), true);
    Bench.due("damage behind", x.damage(13, 1), false);
    Bench.due("install again", x.install(), 0);
    Bench.due("the image is empty", x.damage(0, 1), false);
  }

  private static void installForgets() {
    RequestReader x = Bench.opened();
    Bench.come(x, "GET / HTTP/1.0\nContent-Length: 9\n\nab");
    Bench.due("look()", x.look(), 2);
    Bench.due("held()", x.held(), 2);
    Bench.due("left()", x.left(), 9);
    Bench.due("an answer", x.length() > 0, true);
    Bench.fill(x, Bench.image());
    Bench.due("install()", x.install(), 12);
    Bench.due("forgotten held()", x.held(), 0);
    Bench.due("forgotten left()", x.left(), 0);
    Bench.due("forgotten length()", x.length(), 0);
    Bench.due("forgotten at(0)", x.at(0), -1);
    Bench.due("nothing open: look()", x.look(), -1);
    Bench.due("nothing open: come()", x.come(), -1);
    Bench.due("open()", x.open(), 0);
    Bench.come(x, "GET / HTTP/1.0\n\n");
    Bench.due("look() after", x.look(), 2);
    Bench.due("the old files are gone", Bench.answer(x), Bench.failure("404 Not Found", true));
  }

  /** No run of 512 calls comes so far; the limits hold nonetheless. */
  private static void limits() {
    RequestReader x = Bench.opened();
    for (int i = 1; i <= 3277; i++) {
      Bench.due("feed number " + i, x.feed(i, i, i, i, i), 20 * i);
    }
    Bench.due("feed above 65540", x.feed(0, 0, 0, 0, 0), -1);
    Bench.due("install above 65535", x.install(), -1);
    Bench.due("come above 4096", x.come(), -1);
    Bench.due("all stayed", x.end(65540), 65540);
    Bench.due("still open", x.look(), 0);
    Bench.due("end(65521)", x.end(65521), 65521);
    Bench.due("feed to 65541", x.feed(0, 0, 0, 0, 0), -1);
    Bench.due("end(65520)", x.end(65520), 65520);
    Bench.due("feed to 65540", x.feed(0, 0, 0, 0, 0), 65540);
    Bench.due("end(65536)", x.end(65536), 65536);
    Bench.due("install 65536", x.install(), -1);
    Bench.due("end(65535)", x.end(65535), 65535);
    Bench.due("install 65535", x.install(), 65535);
    Bench.due("damage the last", x.damage(65534, 9), true);
    Bench.due("damage behind the last", x.damage(65535, 9), false);
    Bench.due("feed 20 again", x.feed(0, 0, 0, 0, 0), 20);
  }
}
