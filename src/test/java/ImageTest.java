import java.nio.ByteBuffer;
import java.util.Arrays;

/** Promise 5, open, and term 1, the image: a test for each sentence. */
public final class ImageTest {
  /** Of the image that two() makes: its entries, its head's check, its size. */
  private static final int FIRST = 8;
  private static final int SECOND = 72;
  private static final int CHECK = 136;
  private static final int SIZE = 145;

  private static final String LONGEST = "/" + "x".repeat(46);

  public static void main(String[] args) {
    Bench.says("5: the number of files", ImageTest::answers);
    Bench.says("5: -1 if it is not right (what was open stays so)", ImageTest::refused);
    Bench.says("5: opening takes nothing from stream and answer", ImageTest::keepsStream);
    Bench.says("term: numbers of several bytes have the highest first", ImageTest::highestFirst);
    Bench.says("term 1: at most 65535 bytes", ImageTest::largest);
    Bench.says("term 1: too few bytes", ImageTest::tooShort);
    Bench.says("term 1: bytes of the check that are not there are not taken as 0 or 255", ImageTest::missingCheck);
    Bench.says("term 1: 83 84 79 82", ImageTest::sign);
    Bench.says("term 1: the number of files is 0 .. 64", ImageTest::counts);
    Bench.says("term 1: the number of files has 2 bytes", ImageTest::countOfTwoBytes);
    Bench.says("term 1: two bytes 0", ImageTest::headZeros);
    Bench.says("term 1: a name begins with /", ImageTest::nameBegins);
    Bench.says("term 1: a name has codes 33 .. 126", ImageTest::nameCodes);
    Bench.says("term 1: at most 47 of them", ImageTest::nameLength);
    Bench.says("term 1: the rest 0", ImageTest::nameRest);
    Bench.says("term 1: and 4 bytes 0", ImageTest::entryZeros);
    Bench.says("term 1: then 4 bytes with the check", ImageTest::headCheck);
    Bench.says("term 1: the check of all before them", ImageTest::allBefore);
    Bench.says("term 1: a check is the usual CRC of 32 bits", ImageTest::usualCrc);
    Bench.says("term 1: no name comes twice", ImageTest::twice);
    Bench.says("term 1: place and length lie within it", ImageTest::within);
    Bench.says("term 1: place and length, where sums wrap around", ImageTest::wrapping);
    Bench.says("term 1: files' own checks are looked at only when they are served", ImageTest::fileChecks);
    Bench.finish();
  }

  private static int open(byte[] image) {
    return Bench.installed(image).open();
  }

  private static byte[] two(String first, String second) {
    byte[][] entries = {Bench.entry(first, 140, 5, 1), Bench.entry(second, 0, 0, 2)};
    return Bench.image(entries, new byte[5]);
  }

  /** A right image but for one byte, and with the check that the changed bytes have. */
  private static byte[] sealedWith(int place, int value) {
    byte[] image = two("/a", "/b");
    image[place] = (byte) value;
    ByteBuffer.wrap(image).putInt(CHECK, Bench.crc(image, CHECK));
    return image;
  }

  private static byte[] many(int count) {
    byte[][] entries = new byte[count][];
    for (int i = 0; i < count; i++) {
      entries[i] = Bench.entry("/" + i, 0, 0, 0);
    }
    return Bench.image(entries, new byte[0]);
  }

  private static void answers() {
    for (int count : new int[] {0, 1, 2, 63, 64}) {
      RequestReader x = Bench.installed(many(count));
      Bench.due("open() with " + count, x.open(), count);
      Bench.due("open() again with " + count, x.open(), count);
      Bench.due("look() then", x.look(), 0);
      Bench.due("the last of " + count, Bench.number(x, "GET /" + (count - 1) + " HTTP/1.1\nHost:\n\n"),
          count > 0 ? "1 200" : "1 404");
    }
  }

  private static void refused() {
    RequestReader x = Bench.opened();
    x.damage(0, 'x');
    Bench.due("open() the damaged", x.open(), -1);
    Bench.due("what was open is served", Bench.body(x, "/a.txt"), Bench.TEXT);
    x.damage(0, 'S');
    Bench.due("open() the mended", x.open(), 3);
    x = Bench.installed(sealedWith(0, 'x'));
    Bench.due("open() a wrong one", x.open(), -1);
    Bench.due("nothing is open: look()", x.look(), -1);
    Bench.due("nothing is open: come()", x.come(), -1);
  }

  private static void keepsStream() {
    RequestReader x = Bench.opened();
    Bench.come(x, "POST / HTTP/1.1\nHost:\nContent-Length: 5\n\nabc");
    x.look();
    String before = Bench.state(x);
    Bench.due("open() again", x.open(), 3);
    Bench.due("after open()", Bench.state(x), before);
    x.damage(5, 9);
    Bench.due("open() refused", x.open(), -1);
    Bench.due("after a refused open()", Bench.state(x), before);
  }

  private static void highestFirst() {
    String content = "0".repeat(258);
    byte[][] entries = {Bench.entry("/a", 0x0103, 0x0102, Bench.crc(Bench.bytes(content), 258))};
    byte[] rest = new byte[1000];
    Arrays.fill(rest, (byte) '0');
    RequestReader x = Bench.opened(Bench.image(entries, rest));
    Bench.due("place 0x0103, length 0x0102", Bench.body(x, "/a"), content);
    byte[] turned = Bench.image(entries, rest);
    turned[4] = 1;
    turned[5] = 0;
    ByteBuffer.wrap(turned).putInt(72, Bench.crc(turned, 72));
    Bench.due("the number of files turned round", open(turned), -1);
  }

  private static void largest() {
    String content = "x".repeat(65535 - 76);
    RequestReader x = Bench.opened(Bench.image(new String[][] {{"/b", content}}));
    Bench.due("a file up to the last byte", Bench.body(x, "/b"), content);
    byte[] whole = Bench.image(new byte[][] {Bench.entry("/b", 0, 65535, 1)}, new byte[65535 - 76]);
    Bench.due("a file of the whole image", open(whole), 1);
    byte[] beyond = Bench.image(new byte[][] {Bench.entry("/b", 0, 65536, 1)}, new byte[65535 - 76]);
    Bench.due("a file of a byte more", open(beyond), -1);
  }

  private static void tooShort() {
    byte[] none = Bench.image();
    for (int size = 0; size < none.length; size++) {
      Bench.due("no files, only " + size + " bytes", open(Arrays.copyOf(none, size)), -1);
    }
    Bench.due("no files, 12 bytes", open(none), 0);
    byte[] one = Bench.image(new byte[][] {Bench.entry("/a", 0, 0, 0)}, new byte[0]);
    for (int size = 0; size < one.length; size++) {
      Bench.due("one file, only " + size + " bytes", open(Arrays.copyOf(one, size)), -1);
    }
    Bench.due("one file, 76 bytes", open(one), 1);
    Bench.due("one file, bytes behind", open(Arrays.copyOf(one, 77)), 1);
  }

  /** Entries with checks of their own that make the head's check end with bytes 0 or 255. */
  private static void missingCheck() {
    int[] checks = {0x3E1F09FC, 0x91CFED13, 0x653BC5FF, 0x551107F8, 0xD40A0A86};
    int[] heads = {0, -1, 0x12345600, 0x12340000, 0x12000000};
    for (int i = 0; i < checks.length; i++) {
      byte[] image = Bench.image(new byte[][] {Bench.entry("/a", 0, 0, checks[i])}, new byte[0]);
      Bench.due("the head's check", ByteBuffer.wrap(image).getInt(72), heads[i]);
      Bench.due("all of it", open(image), 1);
      for (int size = 72; size < 76; size++) {
        Bench.due("only " + (size - 72) + " bytes of the check", open(Arrays.copyOf(image, size)), -1);
      }
    }
  }

  private static void sign() {
    Bench.due("the right sign", open(sealedWith(0, 83)), 2);
    for (int i = 0; i < 4; i++) {
      Bench.due("sign's byte " + i + " 0", open(sealedWith(i, 0)), -1);
      Bench.due("sign's byte " + i + " small", open(sealedWith(i, "stor".charAt(i))), -1);
    }
  }

  private static void counts() {
    Bench.due("0 files", open(many(0)), 0);
    Bench.due("64 files", open(many(64)), 64);
    Bench.due("65 files", open(many(65)), -1);
    Bench.due("255 files", open(many(255)), -1);
    Bench.due("256 files", open(many(256)), -1);
    byte[] image = two("/a", "/b");
    image[5] = 3;
    Bench.due("more files than there are entries", open(image), -1);
  }

  private static void countOfTwoBytes() {
    for (int high : new int[] {1, 2, 127, 128, 255}) {
      Bench.due("highest byte " + high, open(sealedWith(4, high)), -1);
    }
    byte[] image = two("/a", "/b");
    image[4] = (byte) 255;
    image[5] = (byte) 255;
    Bench.due("65535 files", open(image), -1);
  }

  private static void headZeros() {
    for (int place = 6; place < 8; place++) {
      for (int value : new int[] {1, 128, 255}) {
        Bench.due("byte " + place + " is " + value, open(sealedWith(place, value)), -1);
      }
      Bench.due("byte " + place + " is 0", open(sealedWith(place, 0)), 2);
    }
  }

  private static void nameBegins() {
    Bench.due("only /", open(two("/", "/b")), 2);
    Bench.due("no name", open(two("", "/b")), -1);
    Bench.due("the second has no name", open(two("/a", "")), -1);
    Bench.due("the code before /", open(two(".a", "/b")), -1);
    Bench.due("the code behind /", open(two("0a", "/b")), -1);
    Bench.due("the second without /", open(two("/a", "b/")), -1);
  }

  private static void nameCodes() {
    for (int code = 1; code < 256; code++) {
      int due = code >= 33 && code <= 126 ? 2 : -1;
      Bench.due("second code " + code, open(two("/" + (char) code, "/bb")), due);
      Bench.due("47th code " + code, open(two("/a", LONGEST.substring(0, 46) + (char) code)), due);
    }
  }

  private static void nameLength() {
    Bench.due("46 codes", open(two(LONGEST.substring(0, 46), "/b")), 2);
    Bench.due("47 codes", open(two(LONGEST, "/b")), 2);
    Bench.due("48 codes", open(two(LONGEST + "x", "/b")), -1);
    Bench.due("48 codes in the second", open(two("/a", LONGEST + "x")), -1);
  }

  private static void nameRest() {
    for (int i = 3; i < 48; i++) {
      Bench.due("a code at " + i, open(sealedWith(FIRST + i, 'x')), -1);
      Bench.due("a 1 at " + i, open(sealedWith(SECOND + i, 1)), -1);
    }
    Bench.due("a code behind the first 0", open(two("/a\0c", "/b")), -1);
    Bench.due("a 255 at the end", open(sealedWith(SECOND + 47, 255)), -1);
  }

  private static void entryZeros() {
    for (int i = 60; i < 64; i++) {
      for (int value : new int[] {1, 128, 255}) {
        Bench.due("first entry's byte " + i, open(sealedWith(FIRST + i, value)), -1);
        Bench.due("second entry's byte " + i, open(sealedWith(SECOND + i, value)), -1);
      }
    }
  }

  private static void headCheck() {
    for (int place = CHECK; place < CHECK + 4; place++) {
      for (int bit = 1; bit < 256; bit *= 2) {
        byte[] image = two("/a", "/b");
        image[place] ^= (byte) bit;
        Bench.due("bit " + bit + " of byte " + place, open(image), -1);
      }
    }
    byte[] image = two("/a", "/b");
    ByteBuffer.wrap(image).putInt(CHECK, ~Bench.crc(image, CHECK));
    Bench.due("the check turned over", open(image), -1);
    ByteBuffer.wrap(image).putInt(CHECK, Integer.reverseBytes(Bench.crc(image, CHECK)));
    Bench.due("the check's lowest byte first", open(image), -1);
  }

  private static void allBefore() {
    for (int place = 0; place < CHECK; place++) {
      byte[] image = two("/a", "/b");
      image[place] ^= 1;
      Bench.due("byte " + place + " changed", open(image), -1);
    }
    for (int place = CHECK + 4; place < SIZE; place++) {
      byte[] image = two("/a", "/b");
      image[place] ^= 1;
      Bench.due("byte " + place + " behind the check changed", open(image), 2);
    }
  }

  private static void usualCrc() {
    byte[] rest = Bench.bytes("123456789");
    byte[][] entries = {Bench.entry("/n", 76 + 64, 9, 0xCBF43926), Bench.entry("/e", 0, 0, 0)};
    RequestReader x = Bench.opened(Bench.image(entries, rest));
    Bench.due("the usual nine digits", Bench.body(x, "/n"), "123456789");
    Bench.due("their mark", Bench.answer(x).contains("ETag: \"cbf43926\"\r\n"), true);
    Bench.due("the check of nothing", Bench.number(x, "GET /e HTTP/1.1\nHost:\n\n"), "1 200");
    StringBuilder all = new StringBuilder();
    for (int i = 0; i < 512; i++) {
      all.append((char) (i % 256));
    }
    x = Bench.opened(Bench.image(new String[][] {{"/all", all.toString()}}));
    Bench.due("all bytes twice", Bench.body(x, "/all"), all.toString());
  }

  private static void twice() {
    Bench.due("the same name", open(two("/ab", "/ab")), -1);
    Bench.due("the same longest name", open(two(LONGEST, LONGEST)), -1);
    Bench.due("the same name /", open(two("/", "/")), -1);
    Bench.due("another last code", open(two(LONGEST, LONGEST.substring(0, 46) + "y")), 2);
    Bench.due("a great letter", open(two("/ab", "/aB")), 2);
    Bench.due("a part of the other", open(two("/ab", "/a")), 2);
    Bench.due("the other is a part", open(two("/a", "/ab")), 2);
    for (int[] pair : new int[][] {{0, 63}, {0, 1}, {62, 63}, {31, 32}, {5, 40}}) {
      byte[] image = many(64);
      System.arraycopy(image, 8 + 64 * pair[0], image, 8 + 64 * pair[1], 64);
      Bench.due("entries with one name: " + Arrays.toString(pair), open(Bench.seal(image)), -1);
    }
  }

  private static int openPlaced(int place, int length) {
    byte[][] entries = {Bench.entry("/a", 0, 0, 0), Bench.entry("/b", place, length, 0)};
    int second = open(Bench.image(entries, new byte[5]));
    byte[][] turned = {entries[1], entries[0]};
    Bench.due("as the first entry", open(Bench.image(turned, new byte[5])), second);
    return second;
  }

  private static void within() {
    int[][] right = {{0, SIZE}, {SIZE, 0}, {SIZE - 1, 1}, {SIZE - 1, 0}, {0, 0}, {1, SIZE - 1}, {8, 100}};
    for (int[] pair : right) {
      Bench.due("right " + Arrays.toString(pair), openPlaced(pair[0], pair[1]), 2);
    }
    int[][] wrong = {{0, SIZE + 1}, {SIZE, 1}, {SIZE + 1, 0}, {1, SIZE}, {SIZE - 1, 2}, {65536, 0}, {0, 65536},
        {65535, 0}, {0, 65535}, {1 << 24, 0}, {0, 1 << 24}};
    for (int[] pair : wrong) {
      Bench.due("wrong " + Arrays.toString(pair), openPlaced(pair[0], pair[1]), -1);
    }
  }

  private static void wrapping() {
    int least = Integer.MIN_VALUE;
    int most = Integer.MAX_VALUE;
    int[][] wrong = {{-1, 0}, {-1, 1}, {-1, 2}, {0, -1}, {1, -1}, {2, -1}, {-1, -1}, {least, 0}, {0, least},
        {least, least}, {most, 0}, {0, most}, {most, 1}, {1, most}, {most, most}, {SIZE, most}, {most, SIZE},
        {least, most}, {most, least}, {-SIZE, SIZE}, {SIZE, -SIZE}, {-5, 10}, {10, -5}, {SIZE + 1, -1}};
    for (int[] pair : wrong) {
      Bench.due("wrong " + Arrays.toString(pair), openPlaced(pair[0], pair[1]), -1);
    }
  }

  private static void fileChecks() {
    RequestReader x = Bench.installed(two("/a", "/b"));
    Bench.due("open() with wrong checks", x.open(), 2);
    Bench.due("the first when served", Bench.number(x, "GET /a HTTP/1.1\nHost:\n\n"), "2 500");
    Bench.due("the second when served", Bench.number(x, "GET /b HTTP/1.1\nHost:\n\n"), "2 500");
    Bench.due("another name", Bench.number(x, "GET /c HTTP/1.1\nHost:\n\n"), "1 404");
  }
}
