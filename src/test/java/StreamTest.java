/** Promises 6 to 9: come, how look takes from the stream, held and left. */
public final class StreamTest {
  private static final String GET = "GET / HTTP/1.1\r\nHost: a\r\n\r\n";

  public static void main(String[] args) {
    come();
    pieces();
    emptyLines();
    severalHeads();
    bodies();
    bodiesNotLeftOut();
    largestBody();
    fullStream();
    Bench.finish();
  }

  private static void come() {
    RequestReader x = Bench.installed(Bench.image());
    x.feed(1, 2, 3, 4, 5);
    Bench.due("come() with nothing open", x.come(), -1);
    Bench.due("the tray stays", x.end(20), 20);
    x.open();
    Bench.due("come()", x.come(), 20);
    Bench.due("the tray is empty", x.end(1), -1);
    Bench.due("come() with nothing", x.come(), 20);
    Bench.fill(x, new byte[4077]);
    Bench.due("come() above 4096", x.come(), -1);
    Bench.due("held() stays", x.held(), 20);
    Bench.due("the tray stays", x.end(4076), 4076);
    Bench.due("come() to 4096", x.come(), 4096);
    Bench.due("held()", x.held(), 4096);
    x.feed(0, 0, 0, 0, 0);
    x.end(1);
    Bench.due("come() when full", x.come(), -1);
  }

  private static void pieces() {
    RequestReader x = Bench.opened();
    Bench.due("look() in an empty stream", x.look(), 0);
    for (int i = 0; i < GET.length() - 1; i++) {
      Bench.due("come " + i, Bench.come(x, GET.substring(i, i + 1)), i + 1);
      Bench.due("look " + i, x.look(), 0);
      Bench.due("held " + i, x.held(), i + 1);
      Bench.due("length " + i, x.length(), 0);
    }
    Bench.come(x, "\n");
    Bench.due("look at the whole", x.look(), 1);
    Bench.due("held() after", x.held(), 0);
    Bench.due("look() again", x.look(), 0);
    Bench.due("the answer stays", Bench.answer(x), Bench.successHead(Bench.HTML, "text/html", false) + Bench.HTML);
  }

  private static void emptyLines() {
    RequestReader x = Bench.opened();
    Bench.come(x, "\r\n\n\r\n\r");
    Bench.due("look() at empty lines", x.look(), 0);
    Bench.due("held() has the last 13", x.held(), 1);
    Bench.come(x, "\nG");
    Bench.due("look() at one more", x.look(), 0);
    Bench.due("held() has the G", x.held(), 1);
    Bench.come(x, "ET / HTTP/1.0\n\n\n\n");
    Bench.due("look() at the head", x.look(), 2);
    Bench.due("lines behind the head stay", x.held(), 2);
    Bench.due("look() takes them", x.look(), 0);
    Bench.due("held() then", x.held(), 0);
    Bench.due("a line of one 13", Bench.number("\r\r\nGET / HTTP/1.0\n\n"), "2 400");
    Bench.due("an empty line of 13 10 ends", Bench.number("GET / HTTP/1.0\n\r\n"), "2 200");
    Bench.due("13 13 10 ends nothing", Bench.number("GET / HTTP/1.0\n\r\r\n"), "0 ");
  }

  private static void severalHeads() {
    RequestReader x = Bench.opened();
    Bench.come(x, "GET /a.txt HTTP/1.1\nhost:\n\n\nGET /no HTTP/1.1\nhost:\n\nGET /none HTTP/1.0\n\nGE");
    Bench.due("look 1", x.look(), 1);
    Bench.due("length 1", x.length(), Bench.successHead(Bench.TEXT, "text/plain", false).length() + 11);
    Bench.due("held 1", x.held(), 47);
    Bench.due("look 2", x.look(), 1);
    Bench.due("answer 2", Bench.answer(x), Bench.failure("404 Not Found", false));
    Bench.due("look 3", x.look(), 2);
    Bench.due("answer 3", Bench.answer(x), Bench.successHead("", "application/octet-stream", true));
    Bench.due("look 4", x.look(), 0);
    Bench.due("held 4", x.held(), 2);
  }

  private static void bodies() {
    RequestReader x = Bench.opened();
    Bench.come(x, "GET / HTTP/1.1\nHost:\nContent-Length: 5\n\n");
    Bench.due("look()", x.look(), 1);
    Bench.due("left()", x.left(), 5);
    Bench.due("held()", x.held(), 0);
    Bench.due("look() without bytes", x.look(), 0);
    Bench.due("left() stays", x.left(), 5);
    Bench.due("come() takes nothing", Bench.come(x, "a\n\n"), 3);
    Bench.due("left() before look()", x.left(), 5);
    Bench.due("look() takes them", x.look(), 0);
    Bench.due("left() after", x.left(), 2);
    Bench.due("held() after", x.held(), 0);
    Bench.come(x, "GE\n" + GET);
    Bench.due("look() at the next head", x.look(), 1);
    Bench.due("left() of none", x.left(), 0);
    Bench.due("held() of none", x.held(), 0);
    leaves("HEAD / HTTP/1.1\nHost:\nContent-Length: 000000007\n\n", "1 200", 7);
    leaves("GET / HTTP/1.1\nHost:\nContent-Length: 7\nIf-None-Match: *\n\n", "1 304", 7);
    leaves("GET /no HTTP/1.1\nHost:\nContent-Length: 7\n\n", "1 404", 7);
    leaves("PUT / HTTP/1.1\nHost:\nContent-Length:7\t \n\n", "1 405", 7);
    leaves("GET / HTTP/1.1\nHost:\nContent-Length: 0\n\n", "1 200", 0);
    leaves("GET / HTTP/1.1\nHost:\nContent-Length: 65536\n\n", "1 200", 65536);
  }

  private static void leaves(String request, String number, int left) {
    RequestReader x = Bench.opened();
    Bench.come(x, request);
    int look = x.look();
    Bench.due(request, look + " " + (char) x.at(9) + (char) x.at(10) + (char) x.at(11), number);
    Bench.due("left() after " + request, x.left(), left);
    Bench.due("held() after " + request, x.held(), 0);
  }

  private static void bodiesNotLeftOut() {
    leaves("GET / HTTP/1.1\nContent-Length: 7\n\n", "2 400", 0);
    leaves("GET /%0 HTTP/1.1\nHost:\nContent-Length: 7\n\n", "2 400", 0);
    leaves("GET / HTTP/1.1\nHost:\nContent-Length: 7\nContent-Length: 7\n\n", "2 400", 0);
    leaves("GET / HTTP/1.1\nHost:\nContent-Length: 65537\n\n", "2 413", 0);
    leaves("GET / HTTP/1.1\nHost:\nContent-Length: 7\nTransfer-Encoding: a\n\n", "2 501", 0);
    RequestReader x = Bench.opened();
    x.damage(12 + 3 * 64, 0);
    Bench.come(x, "GET / HTTP/1.1\nHost:\nContent-Length: 7\n\n");
    Bench.due("look() at a broken file", x.look(), 2);
    Bench.due("left() with 500", x.left(), 7);
  }

  private static void largestBody() {
    RequestReader x = Bench.opened(Bench.image());
    Bench.come(x, "GET / HTTP/1.1\nHost:\nContent-Length: 65536\n\n");
    x.look();
    Bench.fill(x, new byte[4096]);
    for (int left = 65536; left > 0; left -= 4096) {
      Bench.due("left()", x.left(), left);
      Bench.fill(x, new byte[4096]);
      Bench.due("a full stream of the body's", x.come(), 4096);
      Bench.due("no 431 within a body", x.look(), 0);
      Bench.due("all taken", x.held(), 0);
    }
    Bench.due("left() at last", x.left(), 0);
  }

  private static void fullStream() {
    RequestReader x = Bench.opened(Bench.image());
    Bench.come(x, "HEAD / HTTP/1.1\nHost:\n" + "a".repeat(4095 - 22));
    Bench.due("look() at 4095", x.look(), 0);
    Bench.due("held() 4095", x.held(), 4095);
    Bench.come(x, "a");
    Bench.due("look() at 4096", x.look(), 2);
    Bench.due("held() 0", x.held(), 0);
    Bench.due("left() 0", x.left(), 0);
    Bench.due("431", Bench.answer(x), Bench.failure("431 Request Header Fields Too Large", true));

    x = Bench.opened(Bench.image());
    Bench.come(x, "\n" + "a".repeat(4095));
    Bench.due("an empty line makes room", x.look(), 0);
    Bench.due("held() without it", x.held(), 4095);

    x = Bench.opened(Bench.image());
    Bench.come(x, "GET /no HTTP/1.0\na:" + "b".repeat(4096 - 21) + "\n\n");
    Bench.due("held() with a head of 4096", x.held(), 4096);
    Bench.due("look() at it", x.look(), 2);
    Bench.due("its answer", Bench.answer(x), Bench.failure("404 Not Found", true));
    Bench.due("held() after", x.held(), 0);
  }
}
