/**
 * Reads requests from a stream of bytes and makes the answers, with files from a checksummed image.
 * No call throws: what is refused answers -1 or false and changes nothing.
 */
public final class RequestReader {
    private static final int TRAY_LIMIT = 65540;
    private static final int IMAGE_LIMIT = 65535;
    private static final int STREAM_LIMIT = 4096;
    private static final int BODY_LIMIT = 65536;
    private static final int FEED_SIZE = 20;

    private static final int TAB = 9;
    private static final int LINE_FEED = 10;
    private static final int CARRIAGE_RETURN = 13;
    private static final int BLANK = 32;

    private final Row tray;
    private final Store store;
    private final Stream stream;
    private final Head head;
    private final Path path;
    private final Answer answer;

    /** The entry that the latest judged request asks for, or -1. */
    private int file;

    public RequestReader() {
        tray = new Row(TRAY_LIMIT);
        store = new Store();
        stream = new Stream();
        head = new Head();
        path = new Path();
        answer = new Answer();
        file = -1;
    }

    public int feed(int a, int b, int c, int d, int e) {
        if (tray.count() > TRAY_LIMIT - FEED_SIZE) {
            return -1;
        }
        tray.addInt(a);
        tray.addInt(b);
        tray.addInt(c);
        tray.addInt(d);
        tray.addInt(e);
        return tray.count();
    }

    public int end(int n) {
        if (n < 0 || n > tray.count()) {
            return -1;
        }
        tray.cutTo(n);
        return n;
    }

    public int install() {
        if (tray.count() > IMAGE_LIMIT) {
            return -1;
        }
        store.replaceImage(tray);
        tray.cutTo(0);
        stream.forget();
        answer.forget();
        return store.image.count();
    }

    public int open() {
        return store.openImage();
    }

    public int come() {
        if (!store.isOpen || tray.count() > STREAM_LIMIT - stream.bytes.count()) {
            return -1;
        }
        stream.bytes.addRange(tray, 0, tray.count());
        tray.cutTo(0);
        return stream.bytes.count();
    }

    public int look() {
        if (!store.isOpen) {
            return -1;
        }
        stream.takeBody();
        stream.takeEmptyLines();
        int size = stream.headSize();
        if (size == 0 && stream.bytes.count() < STREAM_LIMIT) {
            return 0;
        }
        head.read(stream.bytes, size);
        Status status = size == 0 ? Status.HEAD_TOO_LARGE : judge();
        boolean closes = status.closes || !head.isPersistent();
        answer.writeHead(status, store, file, path.type(), closes);
        if (head.method != Head.HEAD) {
            answer.writeBody(status, store, file);
        }
        stream.bytes.dropFirst(size == 0 ? STREAM_LIMIT : size);
        stream.toLeaveOut = status.leavesBodyOut ? head.bodySize : 0;
        return closes ? 2 : 1;
    }

    public int held() {
        return stream.bytes.count();
    }

    public int left() {
        return stream.toLeaveOut;
    }

    public int length() {
        return answer.bytes.count();
    }

    public int at(int i) {
        return answer.bytes.get(i);
    }

    public boolean damage(int place, int value) {
        return store.image.set(place, value);
    }

    /** Finds the answer's status in the document's order, and the file it is about. */
    private Status judge() {
        Status ofHead = head.judge();
        if (ofHead != Status.OK) {
            return ofHead;
        }
        if (!path.read(stream.bytes, head.targetStart, head.targetEnd)) {
            return Status.BAD_REQUEST;
        }
        file = store.find(path.name);
        if (file < 0) {
            return Status.NOT_FOUND;
        }
        if (!store.isWhole(file)) {
            return Status.BROKEN_FILE;
        }
        return head.hasMark(stream.bytes, store.checkOf(file)) ? Status.NOT_MODIFIED : Status.OK;
    }

    /** The answers' numbers and phrases, and what each means for the connection. */
    private enum Status {
        OK(200, "OK", false, true),
        NOT_MODIFIED(304, "Not Modified", false, true),
        BAD_REQUEST(400, "Bad Request", true, false),
        NOT_FOUND(404, "Not Found", false, true),
        METHOD_NOT_ALLOWED(405, "Method Not Allowed", false, true),
        BODY_TOO_LARGE(413, "Content Too Large", true, false),
        HEAD_TOO_LARGE(431, "Request Header Fields Too Large", true, false),
        BROKEN_FILE(500, "Internal Server Error", true, true),
        NOT_IMPLEMENTED(501, "Not Implemented", true, false);

        private final int number;
        private final String phrase;
        private final boolean closes;
        private final boolean leavesBodyOut;

        Status(int number, String phrase, boolean closes, boolean leavesBodyOut) {
            this.number = number;
            this.phrase = phrase;
            this.closes = closes;
            this.leavesBodyOut = leavesBodyOut;
        }
    }

    /**
     * A row of bytes that grows up to a limit. It begins small and doubles, so that an object
     * costs little room before it is fed, and is used again after that.
     */
    private static final class Row {
        private static final int FIRST_ROOM = 256;
        private static final int LARGEST_UNIT_STEPS = 9;

        /** What four steps of the check do with the four bits that go out. */
        private static final int[] CHECK_STEPS = {
            0x00000000, 0x1DB71064, 0x3B6E20C8, 0x26D930AC,
            0x76DC4190, 0x6B6B51F4, 0x4DB26158, 0x5005713C,
            0xEDB88320, 0xF00F9344, 0xD6D6A3E8, 0xCB61B38C,
            0x9B64C2B0, 0x86D3D2D4, 0xA00AE278, 0xBDBDF21C
        };

        private final int limit;
        private byte[] cells;
        private int size;

        Row(int limit) {
            this.limit = limit;
            this.cells = new byte[FIRST_ROOM];
            this.size = 0;
        }

        int count() {
            return size;
        }

        /** The byte at i as 0 .. 255, or -1 where there is none. */
        int get(int i) {
            return i >= 0 && i < size ? cells[i] & 255 : -1;
        }

        /** The four bytes from i on as a number, the highest first; 0 if they are not all there. */
        int intFrom(int i) {
            if (i < 0 || i > size - 4) {
                return 0;
            }
            return get(i) << 24 | get(i + 1) << 16 | get(i + 2) << 8 | get(i + 3);
        }

        boolean set(int i, int value) {
            if (i < 0 || i >= size) {
                return false;
            }
            cells[i] = (byte) value;
            return true;
        }

        void cutTo(int count) {
            if (count >= 0 && count < size) {
                size = count;
            }
        }

        void dropFirst(int count) {
            if (count > 0 && count <= size) {
                System.arraycopy(cells, count, cells, 0, size - count);
                size -= count;
            }
        }

        void add(int value) {
            if (makeRoom(1)) {
                cells[size] = (byte) value;
                size++;
            }
        }

        void addInt(int value) {
            add(value >>> 24);
            add(value >>> 16);
            add(value >>> 8);
            add(value);
        }

        void addText(String text) {
            for (int i = 0; i < text.length(); i++) {
                add(text.charAt(i));
            }
        }

        void addNumber(int number) {
            int unit = 1;
            for (int i = 0; i < LARGEST_UNIT_STEPS && unit <= number / 10; i++) {
                unit *= 10;
            }
            for (; unit > 0; unit /= 10) {
                add('0' + number / unit % 10);
            }
        }

        void addRange(Row from, int start, int count) {
            if (start < 0 || count < 0 || start > from.size - count || !makeRoom(count)) {
                return;
            }
            System.arraycopy(from.cells, start, cells, size, count);
            size += count;
        }

        private boolean makeRoom(int more) {
            if (more > limit - size) {
                return false;
            }
            int needed = size + more;
            if (needed > cells.length) {
                byte[] larger = new byte[Math.max(needed, Math.min(limit, 2 * cells.length))];
                System.arraycopy(cells, 0, larger, 0, size);
                cells = larger;
            }
            return true;
        }

        /** The first place of the code from start on and before stop, or stop if it is not there. */
        int find(int code, int start, int stop) {
            for (int i = start; i < stop; i++) {
                if (get(i) == code) {
                    return i;
                }
            }
            return stop;
        }

        /** Where the line ends whose 10 is at lineFeed: a 13 right before that is not part of it. */
        int lineEnd(int start, int lineFeed) {
            boolean isPair = lineFeed > start && get(lineFeed - 1) == CARRIAGE_RETURN;
            return isPair ? lineFeed - 1 : lineFeed;
        }

        boolean hasText(int start, int stop, String text) {
            boolean same = stop - start == text.length();
            for (int i = 0; same && i < text.length(); i++) {
                same = get(start + i) == text.charAt(i);
            }
            return same;
        }

        /** Like hasText, with great letters in the row taken as small ones. */
        boolean hasWord(int start, int stop, String small) {
            boolean same = stop - start == small.length();
            for (int i = 0; same && i < small.length(); i++) {
                int code = get(start + i);
                same = (Codes.isGreat(code) ? code + 32 : code) == small.charAt(i);
            }
            return same;
        }

        boolean endsWith(String text) {
            return hasText(size - text.length(), size, text);
        }

        /** The CRC of 32 bits over the bytes from start on and before stop. */
        int check(int start, int stop) {
            int check = -1;
            for (int i = start; i < stop; i++) {
                check ^= get(i);
                check = (check >>> 4) ^ CHECK_STEPS[check & 15];
                check = (check >>> 4) ^ CHECK_STEPS[check & 15];
            }
            return ~check;
        }
    }

    /** Kinds of codes, and what they tell. */
    private static final class Codes {
        private static final String NAME_MARKS = "-_.!#$%&'*+^`|~";
        private static final String DIGITS = "0123456789abcdef";
        private static final int MARK_SIZE = 10;

        private Codes() {
        }

        static boolean isGreat(int code) {
            return code >= 'A' && code <= 'Z';
        }

        static boolean isDigit(int code) {
            return code >= '0' && code <= '9';
        }

        static boolean isVisible(int code) {
            return code >= 33 && code <= 126;
        }

        static boolean isOfName(int code) {
            return isGreat(code) || isDigit(code) || code >= 'a' && code <= 'z'
                || isVisible(code) && NAME_MARKS.indexOf((char) code) >= 0;
        }

        static boolean isOfValue(int code) {
            return code == TAB || code >= 32 && code <= 126 || code >= 128;
        }

        static boolean isSpace(int code) {
            return code == BLANK || code == TAB;
        }

        static int hexValue(int code) {
            if (isDigit(code)) {
                return code - '0';
            }
            if (code >= 'a' && code <= 'f') {
                return code - 'a' + 10;
            }
            return code >= 'A' && code <= 'F' ? code - 'A' + 10 : -1;
        }

        /** Code i of the mark that a file with this check has: its digits stand between quotes. */
        static int ofMark(int check, int i) {
            if (i <= 0 || i >= MARK_SIZE - 1) {
                return '"';
            }
            return DIGITS.charAt((check >>> 4 * (8 - i)) & 15);
        }
    }

    /** The image, and its entries as they were when it was opened. */
    private static final class Store {
        private static final String SIGN = "STOR";
        private static final int FIRST_ENTRY = 8;
        private static final int ENTRY_SIZE = 64;
        private static final int ENTRY_LIMIT = 64;
        private static final int NAME_SIZE = 48;
        private static final int PLACE = 48;
        private static final int LENGTH = 52;
        private static final int CHECK = 56;
        private static final int ZEROS = 60;

        private final Row image;
        private final Row entries;
        private boolean isOpen;

        Store() {
            image = new Row(IMAGE_LIMIT);
            entries = new Row(ENTRY_LIMIT * ENTRY_SIZE);
            isOpen = false;
        }

        void replaceImage(Row bytes) {
            image.cutTo(0);
            image.addRange(bytes, 0, bytes.count());
            entries.cutTo(0);
            isOpen = false;
        }

        int openImage() {
            int count = image.get(4) << 8 | image.get(5);
            if (!isRight(count)) {
                return -1;
            }
            entries.cutTo(0);
            entries.addRange(image, FIRST_ENTRY, count * ENTRY_SIZE);
            isOpen = true;
            return count;
        }

        private boolean isRight(int count) {
            if (count < 0 || count > ENTRY_LIMIT) {
                return false;
            }
            int checkPlace = FIRST_ENTRY + count * ENTRY_SIZE;
            if (image.count() < checkPlace + 4 || !image.hasText(0, 4, SIGN)
                || image.get(6) != 0 || image.get(7) != 0
                || image.check(0, checkPlace) != image.intFrom(checkPlace)) {
                return false;
            }
            boolean right = true;
            for (int i = 0; right && i < count; i++) {
                right = isEntryRight(FIRST_ENTRY + i * ENTRY_SIZE) && isNameNew(i);
            }
            return right;
        }

        private boolean isEntryRight(int start) {
            // Places and lengths of 4 bytes have no sign, and their sum may need more than 32 bits.
            long place = image.intFrom(start + PLACE) & 0xFFFFFFFFL;
            long length = image.intFrom(start + LENGTH) & 0xFFFFFFFFL;
            return isNameRight(start) && place + length <= image.count()
                && image.intFrom(start + ZEROS) == 0;
        }

        private boolean isNameRight(int start) {
            int stop = image.find(0, start, start + NAME_SIZE);
            boolean right = image.get(start) == '/' && stop < start + NAME_SIZE;
            for (int i = start; right && i < start + NAME_SIZE; i++) {
                int code = image.get(i);
                right = i < stop ? Codes.isVisible(code) : code == 0;
            }
            return right;
        }

        private boolean isNameNew(int entry) {
            boolean isNew = true;
            for (int i = 0; isNew && i < entry; i++) {
                isNew = !haveSameName(FIRST_ENTRY + i * ENTRY_SIZE, FIRST_ENTRY + entry * ENTRY_SIZE);
            }
            return isNew;
        }

        private boolean haveSameName(int start, int otherStart) {
            boolean same = true;
            for (int i = 0; same && i < NAME_SIZE; i++) {
                same = image.get(start + i) == image.get(otherStart + i);
            }
            return same;
        }

        /** The entry of that name, or -1. */
        int find(Row name) {
            if (name.count() >= NAME_SIZE) {
                return -1;
            }
            for (int i = 0; i < entries.count() / ENTRY_SIZE; i++) {
                if (isNamed(i, name)) {
                    return i;
                }
            }
            return -1;
        }

        private boolean isNamed(int entry, Row name) {
            boolean same = true;
            for (int i = 0; same && i < NAME_SIZE; i++) {
                int code = i < name.count() ? name.get(i) : 0;
                same = entries.get(entry * ENTRY_SIZE + i) == code;
            }
            return same;
        }

        int placeOf(int entry) {
            return entries.intFrom(entry * ENTRY_SIZE + PLACE);
        }

        int lengthOf(int entry) {
            return entries.intFrom(entry * ENTRY_SIZE + LENGTH);
        }

        int checkOf(int entry) {
            return entries.intFrom(entry * ENTRY_SIZE + CHECK);
        }

        boolean isWhole(int entry) {
            int place = placeOf(entry);
            return image.check(place, place + lengthOf(entry)) == checkOf(entry);
        }
    }

    /** The bytes that have come and are not taken, and how many behind them belong to a body. */
    private static final class Stream {
        private final Row bytes;
        private int toLeaveOut;

        Stream() {
            bytes = new Row(STREAM_LIMIT);
            toLeaveOut = 0;
        }

        void forget() {
            bytes.cutTo(0);
            toLeaveOut = 0;
        }

        void takeBody() {
            int taken = Math.min(toLeaveOut, bytes.count());
            bytes.dropFirst(taken);
            toLeaveOut -= taken;
        }

        void takeEmptyLines() {
            int start = 0;
            for (int i = 0; i < bytes.count(); i++) {
                int code = bytes.get(i);
                if (code == LINE_FEED) {
                    start = i + 1;
                } else if (code != CARRIAGE_RETURN || bytes.get(i + 1) != LINE_FEED) {
                    break;
                }
            }
            bytes.dropFirst(start);
        }

        /** The size of the head with its empty line, or 0 if that has not come. */
        int headSize() {
            int start = 0;
            for (int i = 0; i < bytes.count(); i++) {
                if (bytes.get(i) == LINE_FEED) {
                    if (bytes.lineEnd(start, i) == start) {
                        return i + 1;
                    }
                    start = i + 1;
                }
            }
            return 0;
        }
    }

    /** What a request's head tells; places are those of its bytes in the stream. */
    private static final class Head {
        private static final int GET = 0;
        private static final int HEAD = 1;
        private static final int OTHER = 2;
        private static final int METHOD_LIMIT = 16;
        private static final int DIGIT_LIMIT = 9;

        private boolean isFaulty;
        private int method;
        private boolean isNewer;
        private int targetStart;
        private int targetEnd;
        private int hosts;
        private int encodings;
        private int lengths;
        private int bodySize;
        private int matches;
        private int matchStart;
        private int matchEnd;
        private boolean saysClose;
        private boolean saysKeepAlive;

        Head() {
            method = GET;
        }

        private void forget() {
            isFaulty = false;
            method = GET;
            isNewer = false;
            targetStart = 0;
            targetEnd = 0;
            hosts = 0;
            encodings = 0;
            lengths = 0;
            bodySize = 0;
            matches = 0;
            matchStart = 0;
            matchEnd = 0;
            saysClose = false;
            saysKeepAlive = false;
        }

        void read(Row bytes, int size) {
            forget();
            int start = 0;
            for (int i = 0; i < size; i++) {
                if (bytes.get(i) == LINE_FEED) {
                    int stop = bytes.lineEnd(start, i);
                    if (start == 0) {
                        readRequestLine(bytes, stop);
                    } else if (stop > start) {
                        readField(bytes, start, stop);
                    }
                    start = i + 1;
                }
            }
        }

        private void readRequestLine(Row bytes, int stop) {
            int methodEnd = bytes.find(BLANK, 0, stop);
            targetStart = methodEnd + 1;
            targetEnd = bytes.find(BLANK, targetStart, stop);
            isNewer = bytes.hasText(targetEnd + 1, stop, "HTTP/1.1");
            boolean isVersion = isNewer || bytes.hasText(targetEnd + 1, stop, "HTTP/1.0");
            if (!isVersion || !isMethod(bytes, methodEnd) || !isTarget(bytes)) {
                isFaulty = true;
            } else if (bytes.hasText(0, methodEnd, "HEAD")) {
                method = HEAD;
            } else if (!bytes.hasText(0, methodEnd, "GET")) {
                method = OTHER;
            }
        }

        private static boolean isMethod(Row bytes, int stop) {
            boolean right = stop >= 1 && stop <= METHOD_LIMIT;
            for (int i = 0; right && i < stop; i++) {
                right = Codes.isGreat(bytes.get(i));
            }
            return right;
        }

        private boolean isTarget(Row bytes) {
            boolean right = targetStart < targetEnd && bytes.get(targetStart) == '/';
            for (int i = targetStart; right && i < targetEnd; i++) {
                right = Codes.isVisible(bytes.get(i));
            }
            return right;
        }

        private void readField(Row bytes, int start, int stop) {
            int colon = bytes.find(':', start, stop);
            boolean right = colon > start && colon < stop;
            for (int i = start; right && i < stop; i++) {
                int code = bytes.get(i);
                right = i == colon || (i < colon ? Codes.isOfName(code) : Codes.isOfValue(code));
            }
            if (!right) {
                isFaulty = true;
                return;
            }
            int valueStart = colon + 1;
            int valueEnd = stop;
            while (valueStart < valueEnd && Codes.isSpace(bytes.get(valueStart))) {
                valueStart++;
            }
            while (valueStart < valueEnd && Codes.isSpace(bytes.get(valueEnd - 1))) {
                valueEnd--;
            }
            noteField(bytes, start, colon, valueStart, valueEnd);
        }

        private void noteField(Row bytes, int start, int colon, int valueStart, int valueEnd) {
            if (bytes.hasWord(start, colon, "host")) {
                hosts++;
            } else if (bytes.hasWord(start, colon, "transfer-encoding")) {
                encodings++;
            } else if (bytes.hasWord(start, colon, "content-length")) {
                lengths++;
                bodySize = numberIn(bytes, valueStart, valueEnd);
            } else if (bytes.hasWord(start, colon, "if-none-match")) {
                matches++;
                matchStart = valueStart;
                matchEnd = valueEnd;
            } else if (bytes.hasWord(start, colon, "connection")) {
                noteWords(bytes, valueStart, valueEnd);
            }
        }

        /** The number that 1 to 9 digits tell, or -1 if something else stands there. */
        private static int numberIn(Row bytes, int start, int stop) {
            if (stop <= start || stop - start > DIGIT_LIMIT) {
                return -1;
            }
            int number = 0;
            for (int i = start; i < stop; i++) {
                int code = bytes.get(i);
                if (!Codes.isDigit(code)) {
                    return -1;
                }
                number = number * 10 + code - '0';
            }
            return number;
        }

        private void noteWords(Row bytes, int start, int stop) {
            int wordStart = start;
            for (int i = start; i <= stop; i++) {
                if (i == stop || bytes.get(i) == ',' || Codes.isSpace(bytes.get(i))) {
                    saysClose |= bytes.hasWord(wordStart, i, "close");
                    saysKeepAlive |= bytes.hasWord(wordStart, i, "keep-alive");
                    wordStart = i + 1;
                }
            }
        }

        /** The first fault that the head alone shows, in the document's order, or OK. */
        Status judge() {
            boolean wrongHosts = isNewer ? hosts != 1 : hosts > 1;
            if (isFaulty || wrongHosts) {
                return Status.BAD_REQUEST;
            }
            if (encodings > 0) {
                return Status.NOT_IMPLEMENTED;
            }
            if (lengths > 1 || bodySize < 0) {
                return Status.BAD_REQUEST;
            }
            if (bodySize > BODY_LIMIT) {
                return Status.BODY_TOO_LARGE;
            }
            return method == OTHER ? Status.METHOD_NOT_ALLOWED : Status.OK;
        }

        boolean isPersistent() {
            return !saysClose && (isNewer || saysKeepAlive);
        }

        /** Whether the only If-None-Match is a star or the mark of a file with this check. */
        boolean hasMark(Row bytes, int check) {
            if (matches != 1) {
                return false;
            }
            boolean same = matchEnd - matchStart == Codes.MARK_SIZE;
            for (int i = 0; same && i < Codes.MARK_SIZE; i++) {
                same = bytes.get(matchStart + i) == Codes.ofMark(check, i);
            }
            return same || bytes.hasText(matchStart, matchEnd, "*");
        }
    }

    /** The name that a target tells. */
    private static final class Path {
        private static final String INDEX = "index.html";

        private final Row name;

        Path() {
            name = new Row(STREAM_LIMIT + INDEX.length());
        }

        /** False if a % in the target is wrong. */
        boolean read(Row bytes, int start, int stop) {
            name.cutTo(0);
            int nameEnd = bytes.find('?', start, stop);
            for (int i = start; i < nameEnd; i++) {
                int code = bytes.get(i);
                if (code == '%') {
                    code = escapedCode(bytes, i, nameEnd);
                    i += 2;
                }
                if (!Codes.isVisible(code)) {
                    return false;
                }
                name.add(code);
            }
            if (name.endsWith("/")) {
                name.addText(INDEX);
            }
            return true;
        }

        /** The code that the two digits behind the % tell, or -1 if they are not there. */
        private static int escapedCode(Row bytes, int percent, int stop) {
            if (percent + 2 >= stop) {
                return -1;
            }
            int high = Codes.hexValue(bytes.get(percent + 1));
            int low = Codes.hexValue(bytes.get(percent + 2));
            return high < 0 || low < 0 ? -1 : high * 16 + low;
        }

        String type() {
            if (name.endsWith(".html")) {
                return "text/html";
            }
            if (name.endsWith(".css")) {
                return "text/css";
            }
            if (name.endsWith(".js")) {
                return "text/javascript";
            }
            if (name.endsWith(".txt")) {
                return "text/plain";
            }
            return name.endsWith(".png") ? "image/png" : "application/octet-stream";
        }
    }

    /** The latest answer; its bytes are copies, so later damage does not show in them. */
    private static final class Answer {
        private static final String LINE_END = "\r\n";
        private static final int HEAD_ROOM = 512;

        private final Row bytes;

        Answer() {
            bytes = new Row(IMAGE_LIMIT + HEAD_ROOM);
        }

        void forget() {
            bytes.cutTo(0);
        }

        void writeHead(Status status, Store store, int file, String type, boolean closes) {
            bytes.cutTo(0);
            bytes.addText("HTTP/1.1 ");
            writeStatus(status);
            bytes.addText(LINE_END);
            if (status == Status.OK) {
                writeContent(store.lengthOf(file), type);
            } else if (status != Status.NOT_MODIFIED) {
                writeContent(3 + 1 + status.phrase.length() + 1, "text/plain");
            }
            if (status == Status.OK || status == Status.NOT_MODIFIED) {
                writeMark(store.checkOf(file));
            }
            if (status == Status.METHOD_NOT_ALLOWED) {
                bytes.addText("Allow: GET, HEAD\r\n");
            }
            if (closes) {
                bytes.addText("Connection: close\r\n");
            }
            bytes.addText(LINE_END);
        }

        void writeBody(Status status, Store store, int file) {
            if (status == Status.OK) {
                bytes.addRange(store.image, store.placeOf(file), store.lengthOf(file));
            } else if (status != Status.NOT_MODIFIED) {
                writeStatus(status);
                bytes.add(LINE_FEED);
            }
        }

        private void writeStatus(Status status) {
            bytes.addNumber(status.number);
            bytes.add(BLANK);
            bytes.addText(status.phrase);
        }

        private void writeContent(int length, String type) {
            bytes.addText("Content-Length: ");
            bytes.addNumber(length);
            bytes.addText("\r\nContent-Type: ");
            bytes.addText(type);
            bytes.addText(LINE_END);
        }

        private void writeMark(int check) {
            bytes.addText("ETag: ");
            for (int i = 0; i < Codes.MARK_SIZE; i++) {
                bytes.add(Codes.ofMark(check, i));
            }
            bytes.addText(LINE_END);
        }
    }
}
