/** Promise 12, damage: bytes of files are looked at each time, entries only when opened. */
public final class DamageTest {
  private static final String GET = "GET /a.txt HTTP/1.1\nHost:\n\n";
  private static final int PLACE = 12 + 3 * 64 + Bench.HTML.length();

  public static void main(String[] args) {
    edges();
    files();
    entries();
    answers();
    beforeOpen();
    Bench.finish();
  }

  private static String get(RequestReader x) {
    Bench.come(x, GET);
    return x.look() + " " + (char) x.at(9) + (char) x.at(10) + (char) x.at(11);
  }

  private static void edges() {
    RequestReader x = Bench.opened();
    int size = Bench.image(Bench.FILES).length;
    Bench.due("the first", x.damage(0, 1), true);
    Bench.due("the last", x.damage(size - 1, 1), true);
    Bench.due("behind the last", x.damage(size, 1), false);
    Bench.due("-1", x.damage(-1, 1), false);
    Bench.due("MIN", x.damage(Integer.MIN_VALUE, 1), false);
    Bench.due("MAX", x.damage(Integer.MAX_VALUE, 1), false);
  }

  private static void files() {
    RequestReader x = Bench.opened();
    Bench.due("whole", get(x), "1 200");
    x.damage(PLACE, 'P');
    Bench.due("the first byte broken", get(x), "2 500");
    x.damage(PLACE, 'p' + 256);
    Bench.due("mended by value & 255", get(x), "1 200");
    x.damage(PLACE + Bench.TEXT.length() - 1, -1);
    Bench.due("the last byte broken", get(x), "2 500");
    Bench.due("all of 500", Bench.answer(x), Bench.failure("500 Internal Server Error", true));
    Bench.come(x, "HEAD /a.txt HTTP/1.1\nHost:\nIf-None-Match: *\n\n");
    Bench.due("500 comes before 304", x.look(), 2);
    Bench.due("500 for HEAD", Bench.answer(x), Bench.failureHead("500 Internal Server Error", true));
    x = Bench.opened();
    x.damage(PLACE - 1, 0);
    Bench.due("the byte before is another's", get(x), "1 200");
    Bench.due("files do not hinder open()", x.open(), 3);
    Bench.due("same byte again", x.damage(PLACE, 'p'), true);
    Bench.due("is no damage", get(x), "1 200");
  }

  private static void entries() {
    RequestReader x = Bench.opened();
    for (int i = 0; i < 12 + 3 * 64; i++) {
      x.damage(i, 'x');
    }
    Bench.due("entries count as they were opened", get(x), "1 200");
    Bench.due("but cannot be opened", x.open(), -1);
    Bench.due("what was open stays", get(x), "1 200");

    byte[] image = Bench.image(Bench.FILES);
    byte[] other = image.clone();
    other[8 + 64 + 1] = 'b';
    Bench.seal(other);
    x = Bench.opened(image);
    for (int i = 0; i < image.length; i++) {
      if (image[i] != other[i]) {
        x.damage(i, other[i]);
      }
    }
    Bench.due("the old name before open()", get(x), "1 200");
    Bench.due("a right image again", x.open(), 3);
    Bench.due("the new names since", get(x), "1 404");
  }

  private static void answers() {
    RequestReader x = Bench.opened();
    get(x);
    String answer = Bench.answer(x);
    x.damage(PLACE, 0);
    Bench.due("damage does not show in the answer", Bench.answer(x), answer);
  }

  private static void beforeOpen() {
    byte[] image = Bench.image(Bench.FILES);
    image[1] = 0;
    RequestReader x = Bench.installed(image);
    Bench.due("not right", x.open(), -1);
    Bench.due("damage without open", x.damage(1, 'T'), true);
    Bench.due("right", x.open(), 3);
    Bench.due("served", get(x), "1 200");
  }
}
