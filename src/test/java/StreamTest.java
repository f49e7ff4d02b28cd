/** Promises 6, 8 and 9, and what look takes from the stream (terms 2 and 3): a test for each sentence. */
public final class StreamTest {
  private static final String GET = "GET / HTTP/1.1\r\nHost: a\r\n\r\n";

  public static void main(String[] args) {
    Bench.says("6: the tray's bytes come at the stream's end", StreamTest::comeAtTheEnd);
    Bench.says("6: the tray is empty", StreamTest::comeEmptiesTray);
    Bench.says("6: how many are held then", StreamTest::comeCounts);
    Bench.says("6: -1 if there would be more than 4096", StreamTest::comeTooMany);
    Bench.says("6: -1 if nothing is open", StreamTest::comeNotOpen);
    Bench.says("7: -1 if nothing is open", StreamTest::lookNotOpen);
    Bench.says("7: 0 there is none", StreamTest::lookFindsNone);
    Bench.says("7: 1 an answer was made, 2 one behind which the stream is to be closed", StreamTest::lookAnswers);
    Bench.says("8: how many bytes are held", StreamTest::held);
    Bench.says("9: how many bytes of a body are still to be left out", StreamTest::left);
    Bench.says("term 2: a body's bytes are taken first, as far as they are there", StreamTest::bodyFirst);
    Bench.says("term 2: then empty lines are taken", StreamTest::emptyLines);
    Bench.says("term 2: a line ends with 10; a 13 right before it is not part of it", StreamTest::lineEnds);
    Bench.says("term 2: a line of one code is not empty", StreamTest::shortestLines);
    Bench.says("term 2: a head is taken, lines up to the first empty one", StreamTest::headIsTaken);
    Bench.says("term 2: if 4096 bytes are held, all are taken: 431", StreamTest::fullStream);
    Bench.says("term 2: with 4095 held there is none", StreamTest::nearlyFullStream);
    Bench.says("term 2: a head of just 4096 bytes is a head", StreamTest::largestHead);
    Bench.says("term 2: held when body and empty lines are taken", StreamTest::fullButForTaken);
    Bench.says("term 2: while bytes are to be left out, those that are held are theirs", StreamTest::bodyLikeHead);
    Bench.says("term 2: the largest body goes through a full stream", StreamTest::largestBody);
    Bench.says("term 3: bytes of a body are taken by look() alone", StreamTest::byLookAlone);
    Bench.says("heads in any pieces", StreamTest::pieces);
    Bench.finish();
  }

  private static RequestReader withBody(int length) {
    RequestReader x = Bench.opened();
    Bench.come(x, "GET / HTTP/1.1\nHost:\nContent-Length: " + length + "\n\n");
    Bench.due("look() at a head with a body", x.look(), 1);
    return x;
  }

  private static void comeAtTheEnd() {
    RequestReader x = Bench.opened();
    Bench.come(x, "GET /a.t");
    Bench.come(x, "");
    Bench.come(x, "xt HTTP/1.0\n");
    Bench.come(x, "\n");
    Bench.due("look()", x.look(), 2);
    Bench.due("the head in its order", Bench.answer(x), Bench.successHead(Bench.TEXT, "text/plain", true) + Bench.TEXT);
  }

  private static void comeEmptiesTray() {
    RequestReader x = Bench.opened();
    x.feed(1, 2, 3, 4, 5);
    x.come();
    Bench.dueInTray("come", x, 0);
    Bench.due("nothing comes twice", x.come(), 20);
  }

  private static void comeCounts() {
    RequestReader x = Bench.opened();
    Bench.due("nothing into an empty stream", x.come(), 0);
    Bench.due("one", Bench.come(x, "a"), 1);
    Bench.due("nothing more", x.come(), 1);
    Bench.due("twenty more", Bench.come(x, "b".repeat(20)), 21);
    Bench.due("up to 4096", Bench.come(x, "c".repeat(4075)), 4096);
    Bench.due("nothing into a full stream", x.come(), 4096);
    x = Bench.opened();
    Bench.due("4096 at once", Bench.come(x, "c".repeat(4096)), 4096);
  }

  private static void comeTooMany() {
    RequestReader x = Bench.opened();
    Bench.due("4097 at once", Bench.come(x, "c".repeat(4097)), -1);
    Bench.dueInTray("4097 at once", x, 4097);
    Bench.due("held() stays 0", x.held(), 0);
    x.end(20);
    Bench.due("twenty", x.come(), 20);
    Bench.due("4077 more", Bench.come(x, "c".repeat(4077)), -1);
    Bench.dueInTray("4077 more", x, 4077);
    Bench.due("held() stays 20", x.held(), 20);
    Bench.due("4076 more", x.end(4076) == 4076 ? x.come() : -2, 4096);
    Bench.due("one into a full stream", Bench.come(x, "a"), -1);
    Bench.dueInTray("one into a full stream", x, 1);
    Bench.due("held() stays 4096", x.held(), 4096);
    x.end(0);
    Bench.fill(x, new byte[65540]);
    Bench.due("the fullest tray", x.come(), -1);
    Bench.dueInTray("the fullest tray", x, 65540);
    x = withBody(65536);
    Bench.due("a body's bytes are held too", Bench.come(x, "c".repeat(4097)), -1);
  }

  private static void comeNotOpen() {
    RequestReader x = new RequestReader();
    Bench.due("nothing, without an image", x.come(), -1);
    x.feed(1, 2, 3, 4, 5);
    Bench.due("without an image", x.come(), -1);
    Bench.dueInTray("without an image", x, 20);
    x = Bench.installed(Bench.image(Bench.FILES));
    x.feed(1, 2, 3, 4, 5);
    Bench.due("not yet open", x.come(), -1);
    Bench.dueInTray("not yet open", x, 20);
    Bench.due("held()", x.held(), 0);
    x.open();
    Bench.due("open", x.come(), 20);
  }

  private static void lookNotOpen() {
    RequestReader x = new RequestReader();
    Bench.due("without an image", x.look(), -1);
    x = Bench.installed(Bench.image(Bench.FILES));
    Bench.due("not yet open", x.look(), -1);
    x.feed(1, 2, 3, 4, 5);
    Bench.due("not yet open, with a tray", x.look(), -1);
    Bench.dueInTray("not yet open", x, 20);
    Bench.due("nothing was made", x.length(), 0);
    x.end(0);
    x.open();
    Bench.due("open", x.look(), 0);
    x.install();
    Bench.due("no longer open", x.look(), -1);
  }

  private static void lookFindsNone() {
    RequestReader x = Bench.opened();
    Bench.due("in an empty stream", x.look(), 0);
    for (String part : new String[] {"G", "ET / HTTP/1.1", "\r", "\n", "Host: a", "\r\n", "\r"}) {
      Bench.come(x, part);
      Bench.due("a head's part", x.look(), 0);
      Bench.due("a head's part, again", x.look(), 0);
      Bench.due("no answer", x.length(), 0);
    }
    Bench.due("all is held", x.held(), GET.length() - 1);
    Bench.come(x, "\n");
    Bench.due("the whole", x.look(), 1);
    int length = x.length();
    Bench.due("no other", x.look(), 0);
    Bench.due("the latest answer stays", x.length(), length);
  }

  private static void lookAnswers() {
    Bench.due("persistent", Bench.number(GET), "1 200");
    Bench.due("persistent and not found", Bench.number("GET /no HTTP/1.1\nHost:\n\n"), "1 404");
    Bench.due("not persistent", Bench.number("GET / HTTP/1.0\n\n"), "2 200");
    Bench.due("faulty", Bench.number("GET\n\n"), "2 400");
    RequestReader x = Bench.opened();
    Bench.come(x, "GET / HTTP/1.0\n\n" + GET);
    Bench.due("to be closed", x.look(), 2);
    Bench.due("the caller closes, not the reader", x.look(), 1);
  }

  private static void held() {
    RequestReader x = Bench.opened();
    Bench.due("nothing came", x.held(), 0);
    x.feed(1, 2, 3, 4, 5);
    Bench.due("the tray is not held", x.held(), 0);
    x.come();
    Bench.due("twenty came", x.held(), 20);
    Bench.come(x, "c".repeat(4076));
    Bench.due("a full stream", x.held(), 4096);
    x.look();
    Bench.due("all were taken", x.held(), 0);
    Bench.come(x, GET + GET + "abc");
    x.look();
    Bench.due("one head was taken", x.held(), GET.length() + 3);
    x.look();
    Bench.due("two heads were taken", x.held(), 3);
    x.look();
    Bench.due("the rest stays", x.held(), 3);
  }

  private static void left() {
    RequestReader x = Bench.opened();
    Bench.due("nothing asked", x.left(), 0);
    x = withBody(1);
    Bench.due("one", x.left(), 1);
    Bench.come(x, "a");
    x.look();
    Bench.due("none of one", x.left(), 0);
    x = withBody(65536);
    Bench.due("the most", x.left(), 65536);
    Bench.come(x, "a");
    x.look();
    Bench.due("the most but one", x.left(), 65535);
    x = withBody(0);
    Bench.due("a body of 0", x.left(), 0);
  }

  private static void bodyFirst() {
    RequestReader x = withBody(5);
    Bench.due("none there", x.look() == 0 ? x.left() : -2, 5);
    Bench.come(x, "abc");
    Bench.due("three there", x.look() == 0 ? x.left() : -2, 2);
    Bench.due("all are taken", x.held(), 0);
    Bench.come(x, "de");
    Bench.due("just the rest", x.look() == 0 ? x.left() : -2, 0);
    Bench.due("all are taken", x.held(), 0);
    x = withBody(5);
    Bench.come(x, "abcdeGET /a.txt HTTP/1.0\n\nx");
    Bench.due("a head behind the body, look()", x.look(), 2);
    Bench.due("a head behind the body, left()", x.left(), 0);
    Bench.due("a head behind the body, held()", x.held(), 1);
    Bench.due("a head behind the body", Bench.answer(x), Bench.successHead(Bench.TEXT, "text/plain", true)
        + Bench.TEXT);
    x = withBody(5);
    Bench.come(x, "abcde\r\n\nx");
    x.look();
    Bench.due("empty lines behind the body", x.held(), 1);
  }

  private static void emptyLines() {
    RequestReader x = Bench.opened();
    Bench.come(x, "\n");
    Bench.due("one 10", x.look() == 0 ? x.held() : -2, 0);
    Bench.come(x, "\r\n");
    Bench.due("13 10", x.look() == 0 ? x.held() : -2, 0);
    Bench.come(x, "\r\n\n\n\r\n\r");
    Bench.due("several, and a 13", x.look() == 0 ? x.held() : -2, 1);
    Bench.come(x, "\nG");
    Bench.due("its 10, and a G", x.look() == 0 ? x.held() : -2, 1);
    Bench.come(x, "ET / HTTP/1.0\n\n\n\r\n");
    Bench.due("look() at the head", x.look(), 2);
    Bench.due("those behind the head stay", x.held(), 3);
    Bench.due("until look() takes them", x.look() == 0 ? x.held() : -2, 0);
    Bench.come(x, "\n".repeat(4096));
    Bench.due("4096 empty lines are no 431", x.look(), 0);
    Bench.due("and all are taken", x.held(), 0);
  }

  private static void lineEnds() {
    Bench.due("10 10", Bench.number("GET / HTTP/1.0\n\n"), "2 200");
    Bench.due("13 10 13 10", Bench.number("GET / HTTP/1.0\r\n\r\n"), "2 200");
    Bench.due("10 13 10", Bench.number("GET / HTTP/1.0\n\r\n"), "2 200");
    Bench.due("13 10 10", Bench.number("GET / HTTP/1.0\r\n\n"), "2 200");
    Bench.due("13 13 10 in front is a line", Bench.number("\r\r\nGET / HTTP/1.0\n\n"), "2 400");
    Bench.due("13 13 10 is no empty line", Bench.number("GET / HTTP/1.0\n\r\r\n"), "0 ");
    Bench.due("only one 13 is no part of the line", Bench.number("GET / HTTP/1.0\r\r\n\n"), "2 400");
    Bench.due("13 alone ends nothing", Bench.number("GET / HTTP/1.0\r\r\r\r"), "0 ");
    Bench.due("a 13 not before a 10 is part of the line", Bench.number("\rGET / HTTP/1.0\n\n"), "2 400");
    Bench.due("10 13 does not end a head", Bench.number("GET / HTTP/1.0\n\r"), "0 ");
  }

  private static void shortestLines() {
    for (String line : new String[] {"x\n", "x\r\n", "\0\n", "\0\r\n", " \n", "\t\r\n", "\r\r\n"}) {
      RequestReader x = Bench.opened();
      Bench.due("one line", Bench.number(x, line), "0 ");
      Bench.due("held() with one line", x.held(), line.length());
      Bench.due("two lines", Bench.number(x, line), "0 ");
      Bench.due("held() with two lines", x.held(), 2 * line.length());
      Bench.due("an empty one behind", Bench.number(x, "\nab"), "2 400");
      Bench.due("held() behind the head", x.held(), 2);
    }
  }

  private static void headIsTaken() {
    RequestReader x = Bench.opened();
    Bench.come(x, "GET /a.txt HTTP/1.1\nhost:\n\n\nGET /no HTTP/1.1\nhost:\n\nGET /none HTTP/1.0\n\nGE");
    Bench.due("look 1", x.look(), 1);
    Bench.due("answer 1", Bench.answer(x), Bench.successHead(Bench.TEXT, "text/plain", false) + Bench.TEXT);
    Bench.due("held 1", x.held(), 47);
    Bench.due("look 2", x.look(), 1);
    Bench.due("answer 2", Bench.answer(x), Bench.failure("404 Not Found", false));
    Bench.due("held 2", x.held(), 22);
    Bench.due("look 3", x.look(), 2);
    Bench.due("answer 3", Bench.answer(x), Bench.successHead("", "application/octet-stream", true));
    Bench.due("look 4", x.look(), 0);
    Bench.due("held 4", x.held(), 2);
    Bench.due("the empty line is the head's", Bench.number("GET\n\n"), "2 400");
  }

  private static void fullStream() {
    RequestReader x = Bench.opened();
    Bench.come(x, "HEAD / HTTP/1.1\nHost:\nContent-Length: 7\n" + "a".repeat(4096 - 40));
    Bench.due("held()", x.held(), 4096);
    Bench.due("look()", x.look(), 2);
    Bench.due("all are taken", x.held(), 0);
    Bench.due("nothing is left out", x.left(), 0);
    Bench.due("431, as for GET", Bench.answer(x), Bench.failure("431 Request Header Fields Too Large", true));
    Bench.due("then there is none", x.look(), 0);
    Bench.due("the next request", Bench.body(x, "/a.txt"), Bench.TEXT);
    x = Bench.opened();
    Bench.come(x, GET + "GET /a.txt HTTP/1.1\n" + "a".repeat(4096 - 48));
    Bench.due("a head in front", x.look(), 1);
    Bench.come(x, "a".repeat(27));
    Bench.due("a byte too few", x.look(), 0);
    Bench.come(x, "\n");
    Bench.due("4096 without an empty line", x.look(), 2);
    Bench.due("431 again", Bench.number(x), "431");
  }

  private static void nearlyFullStream() {
    RequestReader x = Bench.opened();
    Bench.come(x, "HEAD / HTTP/1.1\nHost:\n" + "a".repeat(4095 - 22));
    Bench.due("look()", x.look(), 0);
    Bench.due("held()", x.held(), 4095);
    Bench.due("length()", x.length(), 0);
    Bench.come(x, "\n");
    Bench.due("look() at one more", x.look(), 2);
    Bench.due("held() then", x.held(), 0);
  }

  private static void largestHead() {
    String head = "GET /no HTTP/1.0\na:" + "b".repeat(4096 - 21) + "\n\n";
    RequestReader x = Bench.opened();
    Bench.due("come()", Bench.come(x, head), 4096);
    Bench.due("look()", x.look(), 2);
    Bench.due("its answer", Bench.answer(x), Bench.failure("404 Not Found", true));
    Bench.due("held()", x.held(), 0);
    x = Bench.opened();
    Bench.come(x, GET + "x".repeat(4096 - GET.length()));
    Bench.due("a full stream that begins with a head", x.look(), 1);
    Bench.due("what is behind it stays", x.held(), 4096 - GET.length());
  }

  private static void fullButForTaken() {
    RequestReader x = Bench.opened();
    Bench.come(x, "\n" + "a".repeat(4095));
    Bench.due("an empty line and 4095", x.look(), 0);
    Bench.due("an empty line is taken", x.held(), 4095);
    x = withBody(1);
    Bench.come(x, "a".repeat(4096));
    Bench.due("one of a body and 4095", x.look(), 0);
    Bench.due("a body's byte is taken", x.held(), 4095);
    Bench.come(x, "a");
    Bench.due("4096 that are no body's", x.look(), 2);
  }

  private static void bodyLikeHead() {
    RequestReader x = withBody(GET.length() + 4);
    Bench.come(x, "\r\n\r\n" + GET.substring(0, 20));
    Bench.due("look() in the body", x.look(), 0);
    Bench.due("left() in the body", x.left(), GET.length() - 20);
    Bench.come(x, GET.substring(20));
    Bench.due("look() at its end", x.look(), 0);
    Bench.due("left() at its end", x.left(), 0);
    Bench.due("held() at its end", x.held(), 0);
    x = withBody(8);
    Bench.come(x, GET);
    Bench.due("a head cut by the body", x.look(), 2);
    Bench.due("is faulty", Bench.number(x), "400");
  }

  private static void largestBody() {
    RequestReader x = withBody(65536);
    for (int left = 65536; left > 0; left -= 4096) {
      Bench.due("left()", x.left(), left);
      Bench.due("a full stream of the body's", Bench.come(x, "\n".repeat(4096)), 4096);
      Bench.due("no 431 within a body", x.look(), 0);
      Bench.due("all taken", x.held(), 0);
    }
    Bench.due("left() at last", x.left(), 0);
    Bench.due("the next request", Bench.body(x, "/a.txt"), Bench.TEXT);
  }

  private static void byLookAlone() {
    RequestReader x = withBody(5);
    Bench.due("come()", Bench.come(x, "abcdefg"), 7);
    x.open();
    x.damage(0, 'S');
    x.length();
    x.at(0);
    x.end(0);
    Bench.due("held()", x.held(), 7);
    Bench.due("left()", x.left(), 5);
    Bench.due("come() again", Bench.come(x, "h"), 8);
    Bench.due("left() again", x.left(), 5);
    x.look();
    Bench.due("held() after look()", x.held(), 3);
    Bench.due("left() after look()", x.left(), 0);
  }

  private static void pieces() {
    String head = "\r\n" + GET;
    for (int cut = 0; cut <= head.length(); cut++) {
      RequestReader x = Bench.opened();
      Bench.come(x, head.substring(0, cut));
      Bench.due("look() at the first " + cut, x.look(), cut == head.length() ? 1 : 0);
      Bench.come(x, head.substring(cut));
      Bench.due("look() behind " + cut, x.look(), cut == head.length() ? 0 : 1);
      Bench.due("cut at " + cut, Bench.answer(x), Bench.successHead(Bench.HTML, "text/html", false) + Bench.HTML);
    }
    RequestReader x = Bench.opened();
    for (int i = 0; i < GET.length() - 1; i++) {
      Bench.due("come " + i, Bench.come(x, GET.substring(i, i + 1)), i + 1);
      Bench.due("look " + i, x.look(), 0);
    }
    Bench.come(x, "\n");
    Bench.due("byte by byte", x.look(), 1);
  }
}
