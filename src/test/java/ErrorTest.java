/** Promise 7, look: the errors of term 2 in their order, and what each leaves out, a test for each sentence. */
public final class ErrorTest {
  private static final String NEWER = "GET / HTTP/1.1";
  private static final String OLDER = "GET / HTTP/1.0";
  private static final String BODY = "Content-Length: 7\n";
  private static final int FIRST_FILE = 12 + 3 * 64;

  public static void main(String[] args) {
    Bench.says("host not just once in HTTP/1.1: 400", ErrorTest::newerHosts);
    Bench.says("host more than once in 1.0: 400", ErrorTest::olderHosts);
    Bench.says("transfer-encoding there: 501", ErrorTest::encodings);
    Bench.says("content-length more than once: 400", ErrorTest::lengthsTwice);
    Bench.says("content-length not 1 to 9 digits: 400", ErrorTest::lengthDigits);
    Bench.says("content-length above 65536: 413", ErrorTest::lengthLimit);
    Bench.says("method not GET or HEAD: 405", ErrorTest::methods);
    Bench.says("a file whose check is not that of its bytes: 500", ErrorTest::brokenFile);
    Bench.says("then, the first that holds", ErrorTest::order);
    Bench.says("the body's length is left out behind the head", ErrorTest::bodyLeftOut);
    Bench.says("without content-length it is 0", ErrorTest::noBody);
    Bench.says("but not with 400, 413, 431, 501", ErrorTest::bodyNotLeftOut);
    Bench.finish();
  }

  private static void head(String start, String fields, String due) {
    Bench.due(start + " " + fields, Bench.number(start + "\n" + fields + "\n"), due);
    String withPairs = (start + "\n" + fields + "\n").replace("\n", "\r\n");
    Bench.due(start + " " + fields + " with 13 10", Bench.number(withPairs), due);
  }

  private static void newerHosts() {
    head(NEWER, "", "2 400");
    head(NEWER, "a: b\n", "2 400");
    head(NEWER, "Host: a\n", "1 200");
    head(NEWER, "Host:\n", "1 200");
    head(NEWER, "Host: a\nHost: a\n", "2 400");
    head(NEWER, "Host: a\nx:\nHOST: b\n", "2 400");
    head(NEWER, "Host:\n".repeat(3), "2 400");
    head(NEWER, "Host:\n".repeat(257), "2 400");
    head("HEAD / HTTP/1.1", "", "2 400");
    Bench.due("the fields of one head count", twoHeads("Host:\n", ""), "1 200, 2 400");
    Bench.due("not those of the head before", twoHeads("Host:\n", "Host:\n"), "1 200, 1 200");
  }

  private static String twoHeads(String first, String second) {
    RequestReader x = Bench.opened();
    return Bench.number(x, NEWER + "\n" + first + "\n") + ", " + Bench.number(x, NEWER + "\n" + second + "\n");
  }

  private static void olderHosts() {
    head(OLDER, "", "2 200");
    head(OLDER, "Host: a\n", "2 200");
    head(OLDER, "Host: a\nhost: b\n", "2 400");
    head(OLDER, "Host: a\n".repeat(3), "2 400");
  }

  private static void encodings() {
    head(NEWER, "Host:\nTransfer-Encoding: chunked\n", "2 501");
    head(OLDER, "transfer-ENCODING:\n", "2 501");
    head(OLDER, "Transfer-Encoding: identity\nTransfer-Encoding: a\n", "2 501");
    head(OLDER, "Transfer-Encodin:\nXransfer-Encoding:\n", "2 200");
    Bench.due("not that of the head before", twoHeads("Host:\nTransfer-Encoding:\n", "Host:\n"), "2 501, 1 200");
  }

  private static void lengthsTwice() {
    head(OLDER, "Content-Length: 1\nContent-Length: 1\n", "2 400");
    head(OLDER, "Content-Length: 1\nContent-Length: 2\n", "2 400");
    head(OLDER, "Content-Length: 0\nCONTENT-LENGTH: 0\nContent-length: 0\n", "2 400");
    head(OLDER, "Content-Length: 99999\nContent-Length: 1\n", "2 400");
    head(OLDER, "Content-Length: 1\nContent-Length: 99999\n", "2 400");
    head(OLDER, "Content-Length: x\nContent-Length: 1\n", "2 400");
    Bench.due("not that of the head before", twoHeads("Host:\nContent-Length: 0\n", "Host:\nContent-Length: 0\n"),
        "1 200, 1 200");
  }

  private static void lengthDigits() {
    for (String each : new String[] {"", " ", "a", "+1", "-1", "1 2", "1,1", "0x1", "1.0", "/", ":", "1/", "1:",
        "\u00b9", "1234567890", "0000000000", "0000000001", "4294967296", "4294967297", "18446744073709551616",
        "9".repeat(400)}) {
      head(OLDER, "Content-Length:" + each + "\n", "2 400");
    }
    for (String each : new String[] {"0", "9", "10", "000000000", "000000001", "000065536"}) {
      head(OLDER, "Content-Length: " + each + "\n", "2 200");
    }
    head(OLDER, "Content-Length: 999999999\n", "2 413");
  }

  private static void lengthLimit() {
    for (String each : new String[] {"65537", "000065537", "65546", "70000", "99999", "100000", "131072",
        "999999999"}) {
      head(OLDER, "Content-Length: " + each + "\n", "2 413");
    }
    for (String each : new String[] {"65536", "65535", "32768", "0"}) {
      head(OLDER, "Content-Length: " + each + "\n", "2 200");
    }
    Bench.due("not that of the head before", twoHeads("Host:\nContent-Length: 70000\n", "Host:\n"), "2 413, 1 200");
  }

  private static void methods() {
    for (String each : new String[] {"POST", "PUT", "OPTIONS", "G", "GE", "GETT", "GEU", "H", "HEA", "HEADS", "HEAE",
        "XET"}) {
      head(each + " / HTTP/1.1", "Host:\n", "1 405");
      head(each + " / HTTP/1.0", "", "2 405");
    }
    head("GET / HTTP/1.1", "Host:\n", "1 200");
    head("HEAD / HTTP/1.1", "Host:\n", "1 200");
  }

  private static void brokenFile() {
    for (int place = FIRST_FILE; place < FIRST_FILE + Bench.HTML.length(); place++) {
      RequestReader x = Bench.opened();
      x.damage(place, 0);
      Bench.due("byte " + place + " broken", Bench.number(x, NEWER + "\nHost:\n\n"), "2 500");
      Bench.due("another file", Bench.body(x, "/a.txt"), Bench.TEXT);
    }
    for (int bit = 0; bit < 32; bit++) {
      byte[][] entries = {Bench.entry("/a", 76, 5, Bench.crc(Bench.bytes("hello"), 5) ^ 1 << bit)};
      RequestReader x = Bench.opened(Bench.image(entries, Bench.bytes("hello")));
      Bench.due("bit " + bit + " of the check", Bench.body(x, "/a"), "500 Internal Server Error\n");
    }
    byte[][] entries = {Bench.entry("/a", 0, 0, 1)};
    Bench.due("an empty file's check", Bench.body(Bench.opened(Bench.image(entries, new byte[0])), "/a"),
        "500 Internal Server Error\n");
  }

  /** Each request has all the faults that stand behind the one that is due, as far as they go together. */
  private static void order() {
    String start = "POST /%zz HTTP/1.1";
    head("POST  /%zz HTTP/1.1", "x\nTransfer-Encoding:\nContent-Length: 99999\n", "2 400");
    head(start, "x\nHost:\nTransfer-Encoding:\nContent-Length: 99999\n", "2 400");
    head(start, "Transfer-Encoding:\nContent-Length: 99999\n", "2 400");
    head(start, "Host:\nHost:\nTransfer-Encoding:\nContent-Length: 99999\n", "2 400");
    head("POST / HTTP/1.0", "Host:\nHost:\nTransfer-Encoding:\n", "2 400");
    head(start, "Host:\nTransfer-Encoding:\nContent-Length: x\n", "2 501");
    head(start, "Host:\nTransfer-Encoding:\nContent-Length: 1\nContent-Length: 1\n", "2 501");
    head(start, "Host:\nTransfer-Encoding:\nContent-Length: 99999\n", "2 501");
    head(start, "Host:\nContent-Length: 99999\nContent-Length: 99999\n", "2 400");
    head(start, "Host:\nContent-Length: 99999x\n", "2 400");
    head(start, "Host:\nContent-Length: 99999\n", "2 413");
    head(start, "Host:\nContent-Length: 9\n", "1 405");
    head("POST / HTTP/1.1", "Host:\nIf-None-Match: *\n", "1 405");
    head("GET /no%zz HTTP/1.1", "Host:\n", "2 400");
    head("GET /no HTTP/1.1", "Host:\nIf-None-Match: *\n", "1 404");
    RequestReader x = Bench.opened();
    x.damage(FIRST_FILE, 0);
    Bench.due("400 before 500", Bench.number(x, "GET /%zz HTTP/1.1\nHost:\n\n"), "2 400");
    Bench.due("404 before 500", Bench.number(x, "GET /no HTTP/1.1\nHost:\n\n"), "1 404");
    Bench.due("500 before 304", Bench.number(x, NEWER + "\nHost:\nIf-None-Match: *\n\n"), "2 500");
  }

  private static void leaves(RequestReader x, String request, String number, int left) {
    Bench.due(request, Bench.number(x, request + "abc"), number);
    Bench.due("left() after " + request, x.left(), left);
    Bench.due("held() after " + request, x.held(), 3);
  }

  private static void leaves(String request, String number, int left) {
    leaves(Bench.opened(), request, number, left);
  }

  private static void bodyLeftOut() {
    leaves(NEWER + "\nHost:\n" + BODY + "\n", "1 200", 7);
    leaves(NEWER + "\nHost:\nContent-Length: 1\n\n", "1 200", 1);
    leaves(NEWER + "\nHost:\nContent-Length: 65536\n\n", "1 200", 65536);
    leaves(NEWER + "\nHost:\nContent-Length: 000000010\n\n", "1 200", 10);
    leaves("HEAD / HTTP/1.1\nHost:\n" + BODY + "\n", "1 200", 7);
    leaves(OLDER + "\n" + BODY + "\n", "2 200", 7);
    leaves(NEWER + "\nHost:\n" + BODY + "If-None-Match: *\n\n", "1 304", 7);
    leaves("GET /no HTTP/1.1\nHost:\n" + BODY + "\n", "1 404", 7);
    leaves("PUT / HTTP/1.1\nHost:\n" + BODY + "\n", "1 405", 7);
    RequestReader x = Bench.opened();
    x.damage(FIRST_FILE, 0);
    leaves(x, NEWER + "\nHost:\n" + BODY + "\n", "2 500", 7);
  }

  private static void noBody() {
    leaves(NEWER + "\nHost:\n\n", "1 200", 0);
    leaves("PUT / HTTP/1.1\nHost:\n\n", "1 405", 0);
    leaves(NEWER + "\nHost:\nContent-Length: 0\n\n", "1 200", 0);
    RequestReader x = Bench.opened();
    Bench.come(x, NEWER + "\nHost:\n" + BODY + "\nabcdefg");
    x.look();
    leaves(x, NEWER + "\nHost:\n\n", "1 200", 0);
  }

  private static void bodyNotLeftOut() {
    leaves("GET  / HTTP/1.1\nHost:\n" + BODY + "\n", "2 400", 0);
    leaves(NEWER + "\nHost:\n" + BODY + "x\n\n", "2 400", 0);
    leaves(NEWER + "\n" + BODY + "\n", "2 400", 0);
    leaves(NEWER + "\nHost:\n" + BODY + BODY + "\n", "2 400", 0);
    leaves(NEWER + "\nHost:\nContent-Length: x\n\n", "2 400", 0);
    leaves("GET /%0 HTTP/1.1\nHost:\n" + BODY + "\n", "2 400", 0);
    leaves(NEWER + "\nHost:\nContent-Length: 65537\n\n", "2 413", 0);
    leaves(NEWER + "\nHost:\nTransfer-Encoding: a\n" + BODY + "\n", "2 501", 0);
    RequestReader x = Bench.opened();
    String full = NEWER + "\nHost:\n" + BODY;
    Bench.due("a full stream", Bench.number(x, full + "x".repeat(4096 - full.length())), "2 431");
    Bench.due("left() after 431", x.left(), 0);
    Bench.due("held() after 431", x.held(), 0);
  }
}
