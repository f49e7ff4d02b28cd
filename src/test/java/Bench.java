import java.io.ByteArrayOutputStream;
import java.nio.ByteBuffer;
import java.nio.charset.StandardCharsets;
import java.util.Objects;
import java.util.zip.CRC32;

/** What the tests share: images, the way in and out of a reader, and the count of wrong answers. */
final class Bench {
  static final String HTML = "<p>hello</p>";
  static final String TEXT = "plain words";
  static final String[][] FILES = {{"/index.html", HTML}, {"/a.txt", TEXT}, {"/none", ""}};

  private static int wrong = 0;
  private static int sentences = 0;

  private Bench() {
  }

  /** One sentence of the document, and calls of which one goes wrong if it does not hold. */
  static void says(String sentence, Runnable calls) {
    int before = wrong;
    sentences++;
    try {
      calls.run();
    } catch (RuntimeException thrown) {
      due("a call", thrown, "no exception");
    }
    if (wrong > before) {
      System.out.println("DOES NOT HOLD: " + sentence);
    }
  }

  static void due(String what, Object got, Object want) {
    if (!Objects.equals(got, want)) {
      wrong++;
      System.out.println(what + " answered " + show(got) + ", due is " + show(want));
    }
  }

  private static String show(Object value) {
    return String.valueOf(value).replace("\r", "\\r").replace("\n", "\\n");
  }

  static void finish() {
    if (wrong != 0) {
      System.out.println(wrong + " answers are not as due");
      System.exit(1);
    }
    if (sentences > 0) {
      System.out.println(sentences + " sentences hold");
    }
  }

  static String text(byte[] bytes) {
    return new String(bytes, StandardCharsets.ISO_8859_1);
  }

  static byte[] bytes(String text) {
    return text.getBytes(StandardCharsets.ISO_8859_1);
  }

  static int crc(byte[] bytes, int count) {
    CRC32 crc = new CRC32();
    crc.update(bytes, 0, count);
    return (int) crc.getValue();
  }

  static String mark(String content) {
    return String.format("\"%08x\"", crc(bytes(content), content.length()));
  }

  static byte[] image(String[]... files) {
    int place = 12 + 64 * files.length;
    ByteArrayOutputStream contents = new ByteArrayOutputStream();
    byte[][] entries = new byte[files.length][];
    for (int i = 0; i < files.length; i++) {
      byte[] content = bytes(files[i][1]);
      entries[i] = entry(files[i][0], place + contents.size(), content.length, crc(content, content.length));
      contents.writeBytes(content);
    }
    return image(entries, contents.toByteArray());
  }

  static byte[] entry(String name, int place, int length, int check) {
    ByteBuffer entry = ByteBuffer.allocate(64);
    entry.put(bytes(name)).position(48);
    return entry.putInt(place).putInt(length).putInt(check).array();
  }

  static byte[] image(byte[][] entries, byte[] rest) {
    ByteBuffer image = ByteBuffer.allocate(12 + 64 * entries.length + rest.length);
    image.put(bytes("STOR")).putShort((short) entries.length).putShort((short) 0);
    for (byte[] entry : entries) {
      image.put(entry);
    }
    image.position(image.position() + 4).put(rest);
    return seal(image.array());
  }

  /** Writes the head's check anew, where the number of files says that it stands. */
  static byte[] seal(byte[] image) {
    int place = 8 + 64 * ByteBuffer.wrap(image).getShort(4);
    ByteBuffer.wrap(image).putInt(place, crc(image, place));
    return image;
  }

  /** Puts the bytes into an empty tray. */
  static void fill(RequestReader x, byte[] bytes) {
    fillMore(x, 0, text(bytes));
  }

  /** Puts the text behind the bytes that the tray has. */
  static void fillMore(RequestReader x, int have, String text) {
    ByteBuffer padded = ByteBuffer.allocate((text.length() + 19) / 20 * 20).put(bytes(text)).rewind();
    while (padded.hasRemaining()) {
      x.feed(padded.getInt(), padded.getInt(), padded.getInt(), padded.getInt(), padded.getInt());
    }
    x.end(have + text.length());
  }

  static RequestReader installed(byte[] image) {
    RequestReader x = new RequestReader();
    fill(x, image);
    x.install();
    return x;
  }

  static RequestReader opened(byte[] image) {
    RequestReader x = installed(image);
    due("open()", x.open(), (int) ByteBuffer.wrap(image).getShort(4));
    return x;
  }

  static RequestReader opened() {
    return opened(image(FILES));
  }

  static int come(RequestReader x, String text) {
    fill(x, bytes(text));
    return x.come();
  }

  static String answer(RequestReader x) {
    StringBuilder text = new StringBuilder();
    for (int i = 0; i < x.length(); i++) {
      text.append((char) x.at(i));
    }
    return text.toString();
  }

  /** The look() and the whole answer for one request on a new object, as "look answer". */
  static String ask(byte[] image, String request) {
    RequestReader x = opened(image);
    come(x, request);
    int look = x.look();
    return look + " " + answer(x);
  }

  static String ask(String request) {
    return ask(image(FILES), request);
  }

  /** The look() and the number of the answer, as in "2 400". */
  static String number(String request) {
    return number(opened(), request);
  }

  /** The look() and the number of the answer for one more request, as in "1 200". */
  static String number(RequestReader x, String request) {
    come(x, request);
    return x.look() + " " + number(x);
  }

  static String number(RequestReader x) {
    return x.length() < 12 ? "" : "" + (char) x.at(9) + (char) x.at(10) + (char) x.at(11);
  }

  /** The bytes of a file, or of the failure's text, as one more request gets them. */
  static String body(RequestReader x, String name) {
    come(x, "GET " + name + " HTTP/1.1\nHost:\n\n");
    x.look();
    String answer = answer(x);
    return answer.substring(answer.indexOf("\r\n\r\n") + 4);
  }

  /** All that a caller sees without changing it. */
  static String state(RequestReader x) {
    return "held " + x.held() + ", left " + x.left() + ", answer " + answer(x);
  }

  /** That the tray has just so many bytes. */
  static void dueInTray(String what, RequestReader x, int count) {
    due(what + ": a byte more in the tray", x.end(count + 1), -1);
    due(what + ": the tray's bytes", x.end(count), count);
  }

  static String failure(String line, boolean closes) {
    return failureHead(line, closes) + line + "\n";
  }

  static String failureHead(String line, boolean closes) {
    return "HTTP/1.1 " + line + "\r\nContent-Length: " + (line.length() + 1)
        + "\r\nContent-Type: text/plain\r\n" + (line.startsWith("405") ? "Allow: GET, HEAD\r\n" : "")
        + (closes ? "Connection: close\r\n" : "") + "\r\n";
  }

  static String successHead(String content, String type, boolean closes) {
    return "HTTP/1.1 200 OK\r\nContent-Length: " + content.length() + "\r\nContent-Type: " + type
        + "\r\nETag: " + mark(content) + "\r\n" + (closes ? "Connection: close\r\n" : "") + "\r\n";
  }
}
