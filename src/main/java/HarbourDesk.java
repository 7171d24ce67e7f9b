import java.util.NoSuchElementException;

/** A harbour's tools, described by texts and run by typed lines. */
public final class HarbourDesk {
    public static final int NONE = -1;

    private static final int MOST_TAPE = 2000;
    private static final int MOST_LINE = 400;
    private static final int MOST_WORDS = 60;
    private static final int MOST_WORD = 40;
    private static final int MOST_TOOLS = 12;
    private static final int MOST_OPTIONS = 40;
    private static final int MOST_SUBS = 16;
    private static final int MOST_DEPTH = 3;
    private static final int MOST_NAMES = 8;
    private static final int MOST_NAME = 10;
    private static final int MOST_DIGITS = 6;
    private static final int MOST_QUOTED = 12;
    private static final int MOST_KEY_NAMES = 6;
    private static final int MOST_LINKS = 2;
    private static final int MOST_ROWS = 20;
    private static final int MOST_VALUE = 60;
    // a VALUE of 60 bytes has no more WORDS: a byte each and a blank between
    private static final int MOST_ALIAS_WORDS = 30;
    private static final int MOST_RECORDS = 40;
    private static final int MOST_ITEMS = 10;
    private static final int MOST_COUNT_ROW = 20;
    private static final int MOST_CHANGES = 2;

    // each WORD ends with a blank; its place in the row is its number below
    private static final String WORDS = "tool sub opt rest flag count int text day one list short need hidden min max default env not with end no ";
    private static final int TOOL = 0;
    private static final int SUB = 1;
    private static final int OPT = 2;
    private static final int REST = 3;
    private static final int FLAG = 4;
    private static final int COUNT = 5;
    private static final int INT = 6;
    private static final int TEXT = 7;
    private static final int DAY = 8;
    private static final int ONE = 9;
    private static final int LIST = 10;
    private static final int SHORT = 11;
    private static final int NEED = 12;
    private static final int HIDDEN = 13;
    private static final int MIN = 14;
    private static final int MAX = 15;
    private static final int DEFAULT = 16;
    private static final int ENV = 17;
    private static final int NOT = 18;
    private static final int WITH = 19;
    private static final int END = 20;

    private static final int AT_END = 0;
    private static final int NO_TOKEN = 1;
    private static final int NAME_TOKEN = 2;
    private static final int WORD_TOKEN = 3;
    private static final int WHOLE_TOKEN = 4;
    private static final int TEXT_TOKEN = 5;
    private static final int SIGN_TOKEN = 6;

    private static final int FORM_FAULT = 1;
    private static final int NAME_FAULT = 2;
    private static final int SORT_FAULT = 3;
    private static final int MANY_FAULT = 4;
    private static final int LINK_FAULT = 5;

    private static final int ENVIRONMENT = 0;
    private static final int SETTINGS = 1;
    private static final int ALIASES = 2;
    private static final int SORTS_OF_ROWS = 3;

    private static final int BY_LINE = 0;
    private static final int BY_ENVIRONMENT = 1;
    private static final int BY_SETTINGS = 2;
    private static final int BY_DEFAULT = 3;
    private static final int BY_NONE = 4;

    private static final int BAD_LINE = 1;
    private static final int TOO_LONG = 2;
    private static final int ALIAS_AGAIN = 3;
    private static final int NO_WORD = 4;
    private static final int NO_TOOL = 5;
    private static final int NO_OPTION = 6;
    private static final int VALUE_AT_FLAG = 7;
    private static final int NO_VALUE = 8;
    private static final int SECOND_VALUE = 9;
    private static final int NO_REST = 10;
    private static final int BAD_VALUE = 11;
    private static final int BAD_ROW = 12;
    private static final int NEEDED = 13;
    private static final int BEYOND = 14;
    private static final int NOT_TOGETHER = 15;
    private static final int NOT_ALONE = 16;
    private static final int REST_NEEDED = 17;

    // owners of a WORD that no OPTION has taken
    private static final int NOBODY = -2;
    private static final int THE_REST = -1;
    // no int and no number of a DAY
    private static final long NO_NUMBER = Long.MIN_VALUE;

    private static final int FIRST_YEAR = 1600;
    private static final int LAST_YEAR = 2399;
    // from 1600-01-01 to 1970-01-01
    private static final int DAYS_TO_1970 = 135140;
    private static final int[] DAYS_AHEAD_OF_MONTH = {0, 31, 59, 90, 120, 151, 181, 212, 243, 273, 304, 334, 365};

    private final char[] tape = new char[MOST_TAPE];
    private int tapeSize = 0;
    private final StringBuilder page = new StringBuilder();
    private final Tool[] tools = new Tool[MOST_TOOLS];
    private int toolCount = 0;
    // filled by each describe() and kept only when there is no FAULT
    private Tool freshTool = new Tool();
    private final Describer describer = new Describer();
    private final Rows[] rows = new Rows[SORTS_OF_ROWS];
    // cuts the ALIASES, so that the latest LINE's WORDS stay
    private final Line aliasLine = new Line();
    private final Line line = new Line();
    private final Binder binder = new Binder();
    private final Proposals proposals = new Proposals();
    private final DeskRecord[] records = new DeskRecord[MOST_RECORDS];
    private int recordCount = 0;
    // filled by each run() and kept only when there is no BLAME
    private DeskRecord draft = new DeskRecord();

    public HarbourDesk() {
        for (int sort = 0; sort < SORTS_OF_ROWS; sort++) {
            rows[sort] = new Rows(sort == ALIASES ? MOST_ALIAS_WORDS : 0);
        }
    }

    public int feed(int a, int b, int c, int d, int e) {
        if (tapeSize + 20 > MOST_TAPE) {
            return NONE;
        }
        feedFour(a);
        feedFour(b);
        feedFour(c);
        feedFour(d);
        feedFour(e);
        return tapeSize;
    }

    private void feedFour(int number) {
        for (int shift = 24; shift >= 0 && tapeSize < tape.length; shift -= 8) {
            tape[tapeSize] = (char) ((number >>> shift) & 255);
            tapeSize++;
        }
    }

    public int describe(int n) throws IllegalArgumentException {
        if (!isOnTape(n)) {
            throw new IllegalArgumentException();
        }
        tapeSize = 0;
        if (!describer.readDescription(tape, n, tools, toolCount, freshTool)) {
            return describer.fault - 10;
        }
        if (toolCount < tools.length) {
            freshTool.number = toolCount;
            tools[toolCount] = freshTool;
            toolCount++;
            freshTool = new Tool();
        }
        return toolCount - 1;
    }

    public int fault() {
        return describer.faultPlace;
    }

    public int put(int sort, int n) throws IllegalArgumentException {
        if (!isOnTape(n) || !isSortOfRows(sort)) {
            throw new IllegalArgumentException();
        }
        tapeSize = 0;
        int split = 0;
        while (split < n && tape[split] != '=') {
            split++;
        }
        if (split >= n || !isKey(sort, split) || !isRowValue(split + 1, n)) {
            return 0;
        }
        if (sort == ALIASES && !aliasLine.cut(tape, split + 1, n)) {
            return 0;
        }
        Text key = new Text(tape, 0, split);
        return rows[sort].keep(key, new Text(tape, split + 1, n), aliasLine) ? 1 : 0;
    }

    private boolean isKey(int sort, int end) {
        int names = 0;
        int begin = 0;
        for (int i = 0; i <= end && i < tape.length; i++) {
            if (i == end || tape[i] == '.') {
                if (!Scanner.isName(tape, begin, i)) {
                    return false;
                }
                names++;
                begin = i + 1;
            }
        }
        return names <= (sort == SETTINGS ? MOST_KEY_NAMES : 1);
    }

    private boolean isRowValue(int start, int end) {
        if (end - start > MOST_VALUE) {
            return false;
        }
        for (int i = start; i < end && i < tape.length; i++) {
            if (tape[i] < 32 || tape[i] > 126) {
                return false;
            }
        }
        return true;
    }

    public int clear(int sort) throws IllegalArgumentException {
        if (!isSortOfRows(sort)) {
            throw new IllegalArgumentException();
        }
        int gone = rows[sort].size;
        rows[sort].size = 0;
        return gone;
    }

    public int run(int n) throws IllegalArgumentException, IllegalStateException {
        if (!isLineOnTape(n)) {
            throw new IllegalArgumentException();
        }
        if (recordCount >= records.length) {
            throw new IllegalStateException();
        }
        takeLine(n);
        if (line.blame == 0) {
            line.putAliases(rows[ALIASES], MOST_WORDS);
        }
        if (line.blame == 0 && line.size == 0) {
            line.accuseLine(NO_WORD, 0);
        }
        if (line.blame == 0 && binder.bind(line, tools, toolCount, draft, false) && binder.readValues()
                && binder.fill(rows[ENVIRONMENT], rows[SETTINGS]) && binder.check()) {
            return keepDraft();
        }
        findNear();
        return line.blame - 20;
    }

    private int keepDraft() {
        records[recordCount] = draft;
        recordCount++;
        draft = new DeskRecord();
        return recordCount - 1;
    }

    private void takeLine(int n) {
        tapeSize = 0;
        proposals.forget();
        line.cut(tape, 0, n);
    }

    private void findNear() {
        if (line.blame == NO_TOOL && line.size > 0) {
            proposals.findNearTools(tools, toolCount, line.words[0]);
        }
        if (line.blame == NO_OPTION && binder.blamedName != null) {
            proposals.findNearOptions(binder.tool, binder.place, binder.blamedName);
        }
    }

    public int blame(int what) {
        if (what == 0) {
            return line.blame;
        }
        if (what == 5) {
            return line.size;
        }
        if (line.blame == 0) {
            return NONE;
        }
        switch (what) {
            case 1:
                return line.blameWord;
            case 2:
                return line.blamePlace;
            case 3:
                return line.blameOption;
            case 4:
                return line.blameSource;
            default:
                return NONE;
        }
    }

    public int word(int i, int k) {
        if (i < 0 || i >= line.size || i >= line.words.length) {
            return NONE;
        }
        return line.words[i].at(k);
    }

    public int count(int what) {
        switch (what) {
            case 0:
                return toolCount;
            case 1:
                return recordCount;
            case 2:
                return tapeSize;
            case 3:
                return page.length();
            case 4:
            case 5:
            case 6:
                return rows[what - 4].size;
            case 7:
                return proposals.endCount;
            case 8:
                return proposals.nearCount;
            default:
                return NONE;
        }
    }

    public int record(int r, int what) throws NoSuchElementException, IllegalArgumentException {
        DeskRecord kept = recordAt(r);
        switch (what) {
            case 0:
                return kept.tool.number;
            case 1:
                return kept.place.depth;
            case 2:
                return kept.restCount;
            default:
                throw new IllegalArgumentException();
        }
    }

    public int source(int r, int option) throws NoSuchElementException {
        DeskRecord kept = recordAt(r);
        return kept.has(option) ? kept.sources[option] : NONE;
    }

    public int value(int r, int option) throws NoSuchElementException {
        DeskRecord kept = recordAt(r);
        return kept.has(option) ? kept.numbers[option] : 0;
    }

    public int item(int r, int option, int k) throws NoSuchElementException {
        DeskRecord kept = recordAt(r);
        if (k < 0) {
            return 0;
        }
        if (option == NONE) {
            return kept.restByte(k / 100, k % 100);
        }
        return kept.has(option) ? kept.part(option, k) : 0;
    }

    public boolean same(int a, int b) throws NoSuchElementException {
        return recordAt(a).matches(recordAt(b));
    }

    public int print(int r) throws NoSuchElementException {
        DeskRecord kept = recordAt(r);
        page.setLength(0);
        kept.printOn(page);
        return page.length();
    }

    public int octet(int k) {
        return k >= 0 && k < page.length() ? page.charAt(k) : NONE;
    }

    public int ends(int n) throws IllegalArgumentException {
        if (!isLineOnTape(n)) {
            throw new IllegalArgumentException();
        }
        takeLine(n);
        Text stem = line.takeStem();
        if (line.blame == 0) {
            line.putAliases(rows[ALIASES], line.hasComment ? MOST_WORDS : MOST_WORDS - 1);
        }
        if (line.blame == 0 && line.size > 0) {
            binder.bind(line, tools, toolCount, draft, true);
        }
        if (line.blame != 0) {
            findNear();
            return line.blame - 20;
        }
        if (line.hasComment) {
            return 0;
        }
        if (line.size == 0) {
            proposals.proposeFirst(stem, tools, toolCount, rows[ALIASES]);
        } else {
            proposals.proposeNext(stem, binder);
        }
        return proposals.endCount;
    }

    public int show(int sort, int k) throws IllegalArgumentException {
        if (sort != 0 && sort != 1) {
            throw new IllegalArgumentException();
        }
        Text name = sort == 0 ? proposals.endAt(k) : proposals.nearAt(k);
        if (name == null) {
            return NONE;
        }
        page.setLength(0);
        name.printOn(page);
        return page.length();
    }

    private boolean isOnTape(int n) {
        return n >= 0 && n <= tapeSize;
    }

    private boolean isLineOnTape(int n) {
        return isOnTape(n) && n <= MOST_LINE;
    }

    private static boolean isSortOfRows(int sort) {
        return sort >= 0 && sort < SORTS_OF_ROWS;
    }

    private DeskRecord recordAt(int r) {
        if (r < 0 || r >= recordCount || r >= records.length) {
            throw new NoSuchElementException();
        }
        return records[r];
    }

    private static boolean isBlank(int sign) {
        return sign == 32 || sign == 10;
    }

    private static boolean isDigit(int sign) {
        return sign >= '0' && sign <= '9';
    }

    private static boolean isSmall(int sign) {
        return sign >= 'a' && sign <= 'z';
    }

    private static boolean isLetter(int sign) {
        return isSmall(sign) || (sign >= 'A' && sign <= 'Z');
    }

    /** A row of bytes that never changes. */
    private static final class Text {
        private final char[] signs;

        Text(char[] from, int start, int end) {
            int first = Math.max(0, start);
            int size = Math.max(0, Math.min(from.length, end) - first);
            signs = new char[size];
            for (int i = 0; i < size; i++) {
                signs[i] = from[first + i];
            }
        }

        Text(String head, Text tail) {
            int ahead = head.length();
            signs = new char[ahead + tail.signs.length];
            for (int i = 0; i < ahead; i++) {
                signs[i] = head.charAt(i);
            }
            for (int i = 0; i < tail.signs.length; i++) {
                signs[ahead + i] = tail.signs[i];
            }
        }

        Text(Text head, char between, Text tail) {
            int ahead = head.signs.length;
            signs = new char[ahead + 1 + tail.signs.length];
            for (int i = 0; i < ahead; i++) {
                signs[i] = head.signs[i];
            }
            signs[ahead] = between;
            for (int i = 0; i < tail.signs.length; i++) {
                signs[ahead + 1 + i] = tail.signs[i];
            }
        }

        int size() {
            return signs.length;
        }

        int at(int k) {
            return k >= 0 && k < signs.length ? signs[k] : NONE;
        }

        Text part(int start, int end) {
            return new Text(signs, start, end);
        }

        boolean matches(Text other) {
            if (signs.length != other.signs.length) {
                return false;
            }
            for (int i = 0; i < signs.length; i++) {
                if (signs[i] != other.signs[i]) {
                    return false;
                }
            }
            return true;
        }

        boolean startsWith(Text stem) {
            if (stem.signs.length > signs.length) {
                return false;
            }
            for (int i = 0; i < stem.signs.length; i++) {
                if (stem.signs[i] != signs[i]) {
                    return false;
                }
            }
            return true;
        }

        boolean startsWith(String stem) {
            for (int i = 0; i < stem.length(); i++) {
                if (at(i) != stem.charAt(i)) {
                    return false;
                }
            }
            return true;
        }

        boolean says(String other) {
            return signs.length == other.length() && startsWith(other);
        }

        int placeOf(char sign, int start) {
            for (int i = Math.max(0, start); i < signs.length; i++) {
                if (signs[i] == sign) {
                    return i;
                }
            }
            return NONE;
        }

        // NO_NUMBER if these are not so many digits at most, of which there is one
        long wholeNumber(int start, int end, int most) {
            if (start < 0 || end > signs.length || end <= start || end - start > most) {
                return NO_NUMBER;
            }
            long number = 0;
            for (int i = start; i < end; i++) {
                int digit = signs[i] - '0';
                if (digit < 0 || digit > 9) {
                    return NO_NUMBER;
                }
                number = number * 10 + digit;
            }
            return number;
        }

        long intNumber(int start, int end) {
            boolean minus = start < end && at(start) == '-';
            long number = wholeNumber(minus ? start + 1 : start, end, 10);
            if (number == NO_NUMBER) {
                return NO_NUMBER;
            }
            long signed = minus ? -number : number;
            return signed < Integer.MIN_VALUE || signed > Integer.MAX_VALUE ? NO_NUMBER : signed;
        }

        long dayNumber() {
            if (signs.length != 10 || signs[4] != '-' || signs[7] != '-') {
                return NO_NUMBER;
            }
            long year = wholeNumber(0, 4, 4);
            long month = wholeNumber(5, 7, 2);
            long day = wholeNumber(8, 10, 2);
            if (year < FIRST_YEAR || year > LAST_YEAR || month < 1 || month > 12 || day < 1) {
                return NO_NUMBER;
            }
            boolean leap = year % 4 == 0 && (year % 100 != 0 || year % 400 == 0);
            int before = DAYS_AHEAD_OF_MONTH[(int) month - 1];
            int length = DAYS_AHEAD_OF_MONTH[(int) month] - before;
            if (day > (leap && month == 2 ? length + 1 : length)) {
                return NO_NUMBER;
            }
            long years = year - FIRST_YEAR;
            long leaps = (years + 3) / 4 - (years + 99) / 100 + (years + 399) / 400;
            return years * 365 + leaps + before + (leap && month > 2 ? 1 : 0) + day - 1 - DAYS_TO_1970;
        }

        void printOn(StringBuilder page) {
            for (int i = 0; i < signs.length; i++) {
                page.append(signs[i]);
            }
        }

        void printQuotedOn(StringBuilder page) {
            if (isPlain()) {
                printOn(page);
                return;
            }
            page.append('\'');
            for (int i = 0; i < signs.length; i++) {
                if (signs[i] == '\'') {
                    page.append("'\\''");
                } else {
                    page.append(signs[i]);
                }
            }
            page.append('\'');
        }

        private boolean isPlain() {
            for (int i = 0; i < signs.length; i++) {
                char sign = signs[i];
                if (!isLetter(sign) && !isDigit(sign) && "-_.,/:+".indexOf(sign) < 0) {
                    return false;
                }
            }
            return signs.length > 0;
        }
    }

    /** Cuts a description into tokens, up to its end or the first thing that is none. */
    private static final class Scanner {
        private final int[] kinds = new int[MOST_TAPE + 1];
        private final int[] starts = new int[MOST_TAPE + 1];
        private final int[] ends = new int[MOST_TAPE + 1];
        // of a WORD which, of a WHOLE how much, of a sign its byte
        private final int[] numbers = new int[MOST_TAPE + 1];
        private int size;
        private char[] signs;
        private int last;

        void scan(char[] text, int length) {
            signs = text;
            last = Math.min(length, text.length);
            size = 0;
            int at = 0;
            for (int turn = 0; turn <= MOST_TAPE; turn++) {
                while (at < last && isBlank(signs[at])) {
                    at++;
                }
                if (at >= last) {
                    addToken(AT_END, last, last, 0);
                    return;
                }
                at = scanToken(at);
                if (kinds[size - 1] == NO_TOKEN) {
                    return;
                }
            }
        }

        // the place behind the token
        private int scanToken(int start) {
            char sign = signs[start];
            if (isSmall(sign)) {
                return scanName(start);
            }
            if (isDigit(sign) || sign == '-') {
                return scanWhole(start);
            }
            if (sign == '"') {
                return scanText(start);
            }
            boolean known = sign == ';' || sign == '(' || sign == ')' || sign == ',';
            return addToken(known ? SIGN_TOKEN : NO_TOKEN, start, start + 1, sign);
        }

        private int scanName(int start) {
            int end = start;
            while (end < last && isOfName(signs[end])) {
                end++;
            }
            if (!hasNameForm(signs, start, end)) {
                return addToken(NO_TOKEN, start, end, 0);
            }
            int number = wordNumber(signs, start, end);
            return addToken(number == NONE ? NAME_TOKEN : WORD_TOKEN, start, end, number);
        }

        private int scanWhole(int start) {
            boolean minus = signs[start] == '-';
            int first = minus ? start + 1 : start;
            int end = first;
            int number = 0;
            while (end < last && isDigit(signs[end])) {
                // what is longer is no token, and must not wrap round
                number = end - first < MOST_DIGITS ? number * 10 + (signs[end] - '0') : number;
                end++;
            }
            boolean fits = end > first && end - first <= MOST_DIGITS;
            return addToken(fits ? WHOLE_TOKEN : NO_TOKEN, start, end, minus ? -number : number);
        }

        private int scanText(int start) {
            int end = start + 1;
            while (end < last && signs[end] >= 32 && signs[end] <= 126 && signs[end] != '"') {
                end++;
            }
            boolean closed = end < last && signs[end] == '"';
            boolean fits = closed && end - start - 1 <= MOST_QUOTED;
            return addToken(fits ? TEXT_TOKEN : NO_TOKEN, start, end + 1, 0);
        }

        private int addToken(int kind, int start, int end, int number) {
            if (size < kinds.length) {
                kinds[size] = kind;
                starts[size] = start;
                ends[size] = end;
                numbers[size] = number;
                size++;
            }
            return end;
        }

        private static boolean isOfName(int sign) {
            return isSmall(sign) || isDigit(sign) || sign == '-';
        }

        static boolean isName(char[] signs, int start, int end) {
            return hasNameForm(signs, start, end) && wordNumber(signs, start, end) == NONE;
        }

        private static boolean hasNameForm(char[] signs, int start, int end) {
            if (start < 0 || end > signs.length || end <= start || end - start > MOST_NAME) {
                return false;
            }
            for (int i = start; i < end; i++) {
                if (!isOfName(signs[i])) {
                    return false;
                }
            }
            return isSmall(signs[start]) && signs[end - 1] != '-';
        }

        private static int wordNumber(char[] signs, int start, int end) {
            int number = 0;
            int at = start;
            boolean fits = true;
            for (int i = 0; i < WORDS.length(); i++) {
                char sign = WORDS.charAt(i);
                if (sign != ' ') {
                    fits = fits && at < end && at < signs.length && signs[at] == sign;
                    at++;
                } else if (fits && at == end) {
                    return number;
                } else {
                    number++;
                    at = start;
                    fits = true;
                }
            }
            return NONE;
        }
    }

    /** Reads the tokens of a description into a TOOL and finds the first FAULT. */
    private static final class Describer {
        private static final int MOST_LINKS_IN_ALL = MOST_OPTIONS * MOST_LINKS * 2;
        // what can come next: a PART, the NAMES of one, or MARKS of an OPTION
        private static final int PARTS = 0;
        private static final int NAMES = 1;
        private static final int MARKS = 2;

        private final Scanner scanner = new Scanner();
        private char[] signs;
        private int at;
        private int step;
        private Tool tool;
        private Place place;
        private Option option;
        private int fault = 0;
        private int faultPlace = NONE;
        // the NAMES behind not and with, which can be found at the end only
        private final Text[] linkNames = new Text[MOST_LINKS_IN_ALL];
        private final int[] linkPlaces = new int[MOST_LINKS_IN_ALL];
        private final int[] linkOwners = new int[MOST_LINKS_IN_ALL];
        private final int[] linkMarks = new int[MOST_LINKS_IN_ALL];
        private final int[] linkSlots = new int[MOST_LINKS_IN_ALL];
        private int linkCount;

        boolean readDescription(char[] text, int length, Tool[] tools, int toolCount, Tool fresh) {
            fault = 0;
            faultPlace = NONE;
            signs = text;
            scanner.scan(text, length);
            at = 0;
            linkCount = 0;
            tool = fresh;
            tool.forget();
            step = PARTS;
            if (!takeWord(TOOL) || !readToolName(tools, toolCount)) {
                return false;
            }
            for (int turn = 0; turn <= MOST_TAPE && place != null; turn++) {
                boolean fits = step == NAMES ? readNames() : step == MARKS ? readMark() : readPart();
                if (!fits) {
                    return false;
                }
            }
            if (kindHere() != AT_END) {
                return fail(FORM_FAULT);
            }
            return findLinks();
        }

        private boolean readToolName(Tool[] tools, int toolCount) {
            if (kindHere() != NAME_TOKEN) {
                return fail(FORM_FAULT);
            }
            Text name = textHere();
            if (findTool(tools, toolCount, name) != null) {
                return fail(NAME_FAULT);
            }
            if (toolCount >= MOST_TOOLS) {
                return fail(MANY_FAULT);
            }
            place = tool.addPlace(null, name);
            at++;
            return true;
        }

        private boolean readPart() {
            switch (wordHere()) {
                case OPT:
                    return readOption();
                case REST:
                    return readRest();
                case SUB:
                    return openSub();
                case END:
                    at++;
                    place = place.parent;
                    return takeSign(';');
                default:
                    return fail(FORM_FAULT);
            }
        }

        private boolean openSub() {
            if (tool.placeCount > MOST_SUBS || place.depth >= MOST_DEPTH) {
                return fail(MANY_FAULT);
            }
            at++;
            if (kindHere() != NAME_TOKEN) {
                return fail(FORM_FAULT);
            }
            Text name = textHere();
            if (tool.subOf(place, name) != null) {
                return fail(NAME_FAULT);
            }
            place = tool.addPlace(place, name);
            at++;
            return true;
        }

        private boolean readRest() {
            if (place.restSort != NONE) {
                return fail(MANY_FAULT);
            }
            at++;
            if (!isFreeName()) {
                return false;
            }
            place.restName = textHere();
            at++;
            int sort = wordHere();
            if (sort != TEXT && sort != INT) {
                return fail(FORM_FAULT);
            }
            place.restSort = sort;
            at++;
            if (wordHere() == NEED) {
                place.restNeed = true;
                at++;
            }
            return takeSign(';');
        }

        private boolean readOption() {
            if (tool.optionCount >= MOST_OPTIONS) {
                return fail(MANY_FAULT);
            }
            at++;
            if (!isFreeName()) {
                return false;
            }
            option = tool.addOption(place, textHere());
            at++;
            int sort = wordHere();
            if (sort < FLAG || sort > LIST) {
                return fail(FORM_FAULT);
            }
            option.sort = sort;
            step = sort == ONE ? NAMES : MARKS;
            at++;
            return true;
        }

        private boolean isFreeName() {
            if (kindHere() != NAME_TOKEN) {
                return fail(FORM_FAULT);
            }
            Text name = textHere();
            if (name.startsWith("no-") || tool.hasName(place, name)) {
                return fail(NAME_FAULT);
            }
            return true;
        }

        private boolean readNames() {
            step = MARKS;
            if (!takeSign('(') || !readOneName()) {
                return false;
            }
            for (int turn = 0; turn <= MOST_NAMES && isSign(','); turn++) {
                at++;
                if (!readOneName()) {
                    return false;
                }
            }
            return takeSign(')');
        }

        private boolean readOneName() {
            if (kindHere() != NAME_TOKEN) {
                return fail(FORM_FAULT);
            }
            Text name = textHere();
            if (option.nameNumber(name) != NONE) {
                return fail(NAME_FAULT);
            }
            if (!option.addName(name)) {
                return fail(MANY_FAULT);
            }
            at++;
            return true;
        }

        private boolean readMark() {
            if (isSign(';')) {
                step = PARTS;
                at++;
                return true;
            }
            int mark = wordHere();
            if (mark < SHORT || mark > WITH) {
                return fail(FORM_FAULT);
            }
            if (mark == NOT || mark == WITH) {
                return readLink(mark);
            }
            if (!option.canHave(mark)) {
                return fail(SORT_FAULT);
            }
            option.marks |= 1 << mark;
            at++;
            switch (mark) {
                case SHORT:
                    return readShort();
                case MIN:
                case MAX:
                    return readBound(mark);
                case DEFAULT:
                    return readDefault();
                case ENV:
                    return readEnv();
                default:
                    return true;
            }
        }

        private boolean readLink(int mark) {
            if (!option.canLink(mark) || linkCount >= MOST_LINKS_IN_ALL) {
                return fail(MANY_FAULT);
            }
            at++;
            if (kindHere() != NAME_TOKEN) {
                return fail(FORM_FAULT);
            }
            // room is taken at once, so that a third one is seen; its OPTION is found at the end
            linkSlots[linkCount] = option.addLink(mark);
            linkNames[linkCount] = textHere();
            linkPlaces[linkCount] = startHere();
            linkOwners[linkCount] = tool.optionCount - 1;
            linkMarks[linkCount] = mark;
            linkCount++;
            at++;
            return true;
        }

        private boolean readShort() {
            if (kindHere() != TEXT_TOKEN) {
                return fail(FORM_FAULT);
            }
            Text text = textHere();
            int sign = text.at(0);
            if (text.size() != 1 || !isLetter(sign)) {
                return fail(SORT_FAULT);
            }
            if (tool.hasShort(place, sign)) {
                return fail(NAME_FAULT);
            }
            option.sign = sign;
            at++;
            return true;
        }

        private boolean readBound(int mark) {
            if (kindHere() != WHOLE_TOKEN) {
                return fail(FORM_FAULT);
            }
            if (mark == MIN) {
                option.min = numberHere();
            } else {
                option.max = numberHere();
            }
            if (option.min > option.max || (option.tells(DEFAULT) && option.isBeyond(option.number))) {
                return fail(SORT_FAULT);
            }
            at++;
            return true;
        }

        private boolean readDefault() {
            int kind = kindHere();
            if (kind != WHOLE_TOKEN && kind != TEXT_TOKEN && kind != NAME_TOKEN) {
                return fail(FORM_FAULT);
            }
            Text text = textHere();
            boolean fits = false;
            if (option.sort == INT) {
                option.number = numberHere();
                fits = kind == WHOLE_TOKEN && !option.isBeyond(option.number);
            } else if (option.sort == ONE) {
                option.number = option.nameNumber(text);
                fits = kind == NAME_TOKEN && option.number != NONE;
            } else if (option.sort == TEXT) {
                option.number = text.size();
                fits = kind == TEXT_TOKEN;
            } else if (option.sort == DAY) {
                long day = text.dayNumber();
                fits = kind == TEXT_TOKEN && day != NO_NUMBER;
                option.number = fits ? (int) day : 0;
            }
            if (!fits) {
                return fail(SORT_FAULT);
            }
            option.text = text;
            at++;
            return true;
        }

        private boolean readEnv() {
            if (kindHere() != NAME_TOKEN) {
                return fail(FORM_FAULT);
            }
            option.env = textHere();
            at++;
            return true;
        }

        private boolean findLinks() {
            for (int i = 0; i < linkCount; i++) {
                Option owner = tool.options[linkOwners[i]];
                int target = tool.optionOf(owner.place, linkNames[i]);
                if (target == NONE || target == linkOwners[i]) {
                    fault = LINK_FAULT;
                    faultPlace = linkPlaces[i];
                    return false;
                }
                owner.setLink(linkMarks[i], linkSlots[i], target);
            }
            return true;
        }

        private boolean fail(int which) {
            fault = which;
            faultPlace = startHere();
            return false;
        }

        // the last token is never passed, but a token is only read where there is one
        private int kindHere() {
            return at < scanner.size ? scanner.kinds[at] : AT_END;
        }

        private int numberHere() {
            return at < scanner.size ? scanner.numbers[at] : 0;
        }

        private int startHere() {
            return at < scanner.size ? scanner.starts[at] : scanner.last;
        }

        private int endHere() {
            return at < scanner.size ? scanner.ends[at] : scanner.last;
        }

        private int wordHere() {
            return kindHere() == WORD_TOKEN ? numberHere() : NONE;
        }

        private boolean isSign(char sign) {
            return kindHere() == SIGN_TOKEN && numberHere() == sign;
        }

        // the marks of a TEXT are left out
        private Text textHere() {
            int edge = kindHere() == TEXT_TOKEN ? 1 : 0;
            return new Text(signs, startHere() + edge, endHere() - edge);
        }

        private boolean takeWord(int number) {
            if (wordHere() != number) {
                return fail(FORM_FAULT);
            }
            at++;
            return true;
        }

        private boolean takeSign(char sign) {
            if (!isSign(sign)) {
                return fail(FORM_FAULT);
            }
            at++;
            return true;
        }
    }

    private static Tool findTool(Tool[] tools, int toolCount, Text name) {
        for (int i = 0; i < toolCount && i < tools.length; i++) {
            if (tools[i].places[0].name.matches(name)) {
                return tools[i];
            }
        }
        return null;
    }

    /** A TOOL with all its PLACES, of which the first is its own, and OPTIONS. */
    private static final class Tool {
        private int number = NONE;
        private final Place[] places = new Place[MOST_SUBS + 1];
        private int placeCount = 0;
        private final Option[] options = new Option[MOST_OPTIONS];
        private int optionCount = 0;

        void forget() {
            placeCount = 0;
            optionCount = 0;
        }

        Place addPlace(Place parent, Text name) {
            Place added = new Place(parent, name);
            if (placeCount < places.length) {
                places[placeCount] = added;
                placeCount++;
            }
            return added;
        }

        Option addOption(Place place, Text name) {
            Option added = new Option(place, name);
            if (optionCount < options.length) {
                options[optionCount] = added;
                optionCount++;
            }
            return added;
        }

        Place subOf(Place place, Text name) {
            for (int i = 0; i < placeCount; i++) {
                if (places[i].parent == place && places[i].name.matches(name)) {
                    return places[i];
                }
            }
            return null;
        }

        int optionOf(Place place, Text name) {
            for (int i = 0; i < optionCount; i++) {
                if (place.isWithin(options[i].place) && options[i].name.matches(name)) {
                    return i;
                }
            }
            return NONE;
        }

        int optionWithShort(Place place, int sign) {
            for (int i = 0; i < optionCount; i++) {
                if (place.isWithin(options[i].place) && options[i].sign == sign) {
                    return i;
                }
            }
            return NONE;
        }

        boolean hasName(Place place, Text name) {
            for (int i = 0; i < optionCount; i++) {
                if (place.sharesPath(options[i].place) && options[i].name.matches(name)) {
                    return true;
                }
            }
            for (int i = 0; i < placeCount; i++) {
                Text rest = places[i].restName;
                if (rest != null && place.sharesPath(places[i]) && rest.matches(name)) {
                    return true;
                }
            }
            return false;
        }

        boolean hasShort(Place place, int sign) {
            for (int i = 0; i < optionCount; i++) {
                if (place.sharesPath(options[i].place) && options[i].sign == sign) {
                    return true;
                }
            }
            return false;
        }
    }

    /** A TOOL or SUB: where OPTIONS and a rest can stand. */
    private static final class Place {
        private final Place parent;
        private final Text name;
        // the NAMES of the PATH with . between, as SETTINGS have them
        private final Text key;
        private final int depth;
        private Text restName = null;
        private int restSort = NONE;
        private boolean restNeed = false;

        Place(Place parent, Text name) {
            this.parent = parent;
            this.name = name;
            this.key = parent == null ? name : new Text(parent.key, '.', name);
            this.depth = parent == null ? 0 : parent.depth + 1;
        }

        boolean isWithin(Place outer) {
            Place step = this;
            for (int turn = 0; turn <= MOST_DEPTH && step != null; turn++) {
                if (step == outer) {
                    return true;
                }
                step = step.parent;
            }
            return false;
        }

        boolean sharesPath(Place other) {
            return isWithin(other) || other.isWithin(this);
        }
    }

    /** An OPTION as it was described. */
    private static final class Option {
        private final Place place;
        private final Text name;
        // as SETTINGS have it
        private final Text key;
        private int sort = NONE;
        // a bit for each MARK that was told
        private int marks = 0;
        private int sign = NONE;
        private int min = Integer.MIN_VALUE;
        private int max = Integer.MAX_VALUE;
        // the default
        private int number = 0;
        private Text text = null;
        private Text env = null;
        private Text[] names = null;
        private int nameCount = 0;
        private final int[] nots = new int[MOST_LINKS];
        private int notCount = 0;
        private final int[] withs = new int[MOST_LINKS];
        private int withCount = 0;

        Option(Place place, Text name) {
            this.place = place;
            this.name = name;
            this.key = new Text(place.key, '.', name);
        }

        boolean tells(int mark) {
            return ((marks >> mark) & 1) == 1;
        }

        boolean canHave(int mark) {
            if (tells(mark)) {
                return false;
            }
            switch (mark) {
                case NEED:
                    return !tells(DEFAULT);
                case MIN:
                case MAX:
                    return sort == INT || sort == LIST;
                case DEFAULT:
                    return !tells(NEED) && sort != FLAG && sort != COUNT && sort != LIST;
                default:
                    return true;
            }
        }

        boolean takesValue() {
            return sort != FLAG && sort != COUNT;
        }

        boolean isBeyond(int given) {
            return given < min || given > max;
        }

        int nameNumber(Text given) {
            for (int i = 0; i < nameCount; i++) {
                if (names[i].matches(given)) {
                    return i;
                }
            }
            return NONE;
        }

        boolean addName(Text added) {
            if (names == null) {
                names = new Text[MOST_NAMES];
            }
            if (nameCount >= names.length) {
                return false;
            }
            names[nameCount] = added;
            nameCount++;
            return true;
        }

        boolean canLink(int mark) {
            return (mark == NOT ? notCount : withCount) < MOST_LINKS;
        }

        int addLink(int mark) {
            int slot = mark == NOT ? notCount : withCount;
            if (mark == NOT) {
                notCount++;
            } else {
                withCount++;
            }
            return slot;
        }

        void setLink(int mark, int slot, int target) {
            int[] links = mark == NOT ? nots : withs;
            if (slot >= 0 && slot < links.length) {
                links[slot] = target;
            }
        }
    }

    /** The rows of one sort: KEYS with their VALUES, and the WORDS of ALIASES. */
    private static final class Rows {
        private final Text[] keys = new Text[MOST_ROWS];
        private final Text[] values = new Text[MOST_ROWS];
        private final int wordRoom;
        private final Text[] words;
        private final int[] wordCounts = new int[MOST_ROWS];
        private int size = 0;

        Rows(int wordRoom) {
            this.wordRoom = wordRoom;
            this.words = new Text[wordRoom * MOST_ROWS];
        }

        int find(Text key) {
            for (int i = 0; i < size; i++) {
                if (keys[i].matches(key)) {
                    return i;
                }
            }
            return NONE;
        }

        Text valueOf(Text key) {
            int at = find(key);
            return at == NONE ? null : values[at];
        }

        boolean keep(Text key, Text value, Line cut) {
            // the document refuses every row while there are 20, also one whose KEY is there
            if (size >= MOST_ROWS) {
                return false;
            }
            int at = find(key);
            if (at == NONE) {
                at = size;
                size++;
            }
            keys[at] = key;
            values[at] = value;
            wordCounts[at] = Math.min(cut.size, wordRoom);
            for (int i = 0; i < wordCounts[at]; i++) {
                words[at * wordRoom + i] = cut.words[i];
            }
            return true;
        }
    }

    /** A LINE cut into WORDS, and what is to blame in it. */
    private static final class Line {
        private final Text[] words = new Text[MOST_WORDS];
        private int size = 0;
        private boolean hasComment = false;
        // the last WORD reaches up to the LINE's end
        private boolean isOpen = false;
        private int blame = 0;
        private int blameWord = NONE;
        private int blamePlace = 0;
        private int blameOption = NONE;
        private int blameSource = NONE;
        private char[] signs;
        private int first;
        private int last;
        private int at;
        // of the WORD that is cut: where it begins, and its bytes
        private int begin;
        private final char[] bytes = new char[MOST_WORD];
        private int filled;

        boolean cut(char[] from, int start, int end) {
            size = 0;
            hasComment = false;
            isOpen = false;
            blame = 0;
            signs = from;
            first = start;
            last = Math.min(end, from.length);
            at = start;
            for (int turn = 0; turn <= MOST_LINE && blame == 0; turn++) {
                while (at < last && isBlank(signs[at])) {
                    at++;
                }
                if (at >= last) {
                    break;
                }
                if (signs[at] == '#') {
                    hasComment = true;
                    break;
                }
                cutWord();
            }
            return blame == 0;
        }

        private void cutWord() {
            begin = at;
            filled = 0;
            if (size >= words.length) {
                accuseLine(TOO_LONG, begin - first);
                return;
            }
            for (int turn = 0; turn < MOST_LINE && isInWord(); turn++) {
                char sign = signs[at];
                if (sign == '\'') {
                    cutSingle();
                } else if (sign == '"') {
                    cutDouble();
                } else if (sign == '\\' && at + 1 >= last) {
                    accuseLine(BAD_LINE, at - first);
                } else {
                    at = sign == '\\' ? at + 1 : at;
                    takeByte();
                }
                at++;
            }
            if (blame == 0) {
                isOpen = at >= last;
                words[size] = new Text(bytes, 0, filled);
                size++;
            }
        }

        private boolean isInWord() {
            return blame == 0 && at < last && !isBlank(signs[at]);
        }

        private void cutSingle() {
            int mark = at;
            for (at = mark + 1; at < last && blame == 0 && signs[at] != '\''; at++) {
                takeByte();
            }
            lookForClose(mark);
        }

        private void cutDouble() {
            int mark = at;
            for (at = mark + 1; at < last && blame == 0 && signs[at] != '"'; at++) {
                at = signs[at] == '\\' ? at + 1 : at;
                // no byte comes from a \ at the LINE's end: the quote is not closed then
                if (at < last) {
                    takeByte();
                }
            }
            lookForClose(mark);
        }

        private void lookForClose(int mark) {
            if (blame == 0 && at >= last) {
                accuseLine(BAD_LINE, mark - first);
            }
        }

        private void takeByte() {
            char sign = signs[at];
            if ((sign < 32 && sign != 10) || sign > 126) {
                accuseLine(BAD_LINE, at - first);
            } else if (filled >= bytes.length) {
                // told at the byte too many: what is wrong further right is met later
                accuseLine(TOO_LONG, begin - first);
            } else {
                bytes[filled] = sign;
                filled++;
            }
        }

        // the STEM is no WORD any more, but counts as one
        Text takeStem() {
            if (blame == 0 && isOpen && !hasComment && size > 0) {
                size--;
                return words[size];
            }
            if (blame == 0 && !hasComment && size >= MOST_WORDS) {
                accuseLine(TOO_LONG, last - first);
            }
            return new Text(bytes, 0, 0);
        }

        void putAliases(Rows aliases, int most) {
            int used = 0;
            for (int turn = 0; turn <= MOST_ROWS && size > 0; turn++) {
                int row = aliases.find(words[0]);
                if (row == NONE) {
                    return;
                }
                if (((used >> row) & 1) == 1) {
                    accuseWord(ALIAS_AGAIN, 0, 0, NONE);
                    return;
                }
                used |= 1 << row;
                putIn(aliases, row, most);
            }
        }

        private void putIn(Rows aliases, int row, int most) {
            int more = aliases.wordCounts[row];
            if (size - 1 + more > most) {
                accuseLine(TOO_LONG, 0);
                return;
            }
            moveWords(more - 1);
            for (int i = 0; i < more; i++) {
                words[i] = aliases.words[row * aliases.wordRoom + i];
            }
            size = size - 1 + more;
        }

        // all but the first; from the side to which they go, so that none is lost
        private void moveWords(int by) {
            if (by > 0) {
                for (int i = size - 1; i >= 1 && i + by < words.length; i--) {
                    words[i + by] = words[i];
                }
            } else if (by < 0) {
                for (int i = 1; i < size && i + by >= 0; i++) {
                    words[i + by] = words[i];
                }
            }
        }

        void accuseLine(int which, int place) {
            size = 0;
            accuseWord(which, NONE, place, NONE);
        }

        void accuseWord(int which, int word, int place, int option) {
            blame = which;
            blameWord = word;
            blamePlace = place;
            blameOption = option;
            blameSource = NONE;
        }

        void accuseOption(int which, int option, int source) {
            accuseWord(which, NONE, 0, option);
            blameSource = source;
        }
    }

    /** Binds a LINE's WORDS to OPTIONS, fills in what it leaves out, and checks all. */
    private static final class Binder {
        private Line line;
        private DeskRecord draft;
        private Tool tool;
        private Place place;
        private boolean isForEnds;
        // which OPTION has its VALUE in this WORD, and that VALUE
        private final int[] owners = new int[MOST_WORDS];
        private final Text[] given = new Text[MOST_WORDS];
        // the last WORD that is bound
        private int at;
        // how many WORDS are NAMES of the PATH
        private int pathWords;
        private boolean sawDashes;
        private int waiting;
        private Text blamedName;

        boolean bind(Line line, Tool[] tools, int toolCount, DeskRecord draft, boolean isForEnds) {
            this.line = line;
            this.draft = draft;
            this.isForEnds = isForEnds;
            sawDashes = false;
            waiting = NONE;
            blamedName = null;
            if (!findPlace(tools, toolCount)) {
                return false;
            }
            draft.begin(tool, place);
            for (int i = 0; i < MOST_WORDS; i++) {
                owners[i] = NOBODY;
            }
            at = pathWords;
            for (int turn = 0; turn < MOST_WORDS && at < line.size; turn++) {
                if (!bindWord(line.words[at])) {
                    return false;
                }
                at++;
            }
            return true;
        }

        private boolean findPlace(Tool[] tools, int toolCount) {
            tool = line.size > 0 ? findTool(tools, toolCount, line.words[0]) : null;
            if (tool == null) {
                line.accuseWord(NO_TOOL, 0, 0, NONE);
                return false;
            }
            place = tool.places[0];
            pathWords = 1;
            for (int turn = 0; turn < MOST_DEPTH && pathWords < line.size; turn++) {
                Place next = tool.subOf(place, line.words[pathWords]);
                if (next == null) {
                    return true;
                }
                place = next;
                pathWords++;
            }
            return true;
        }

        private boolean bindWord(Text word) {
            if (sawDashes) {
                return bindRest(word);
            }
            if (word.says("--")) {
                sawDashes = true;
                return true;
            }
            if (word.startsWith("--")) {
                return bindLong(word);
            }
            if (word.at(0) == '-' && isLetter(word.at(1))) {
                return bindLetters(word);
            }
            return bindRest(word);
        }

        private boolean bindRest(Text word) {
            if (place.restSort == NONE) {
                return fail(NO_REST, 0, NONE);
            }
            owners[at] = THE_REST;
            given[at] = word;
            draft.addRest(word);
            return true;
        }

        private boolean bindLong(Text word) {
            int split = word.placeOf('=', 2);
            Text name = word.part(2, split == NONE ? word.size() : split);
            int number = tool.optionOf(place, name);
            int told = 1;
            if (number == NONE && name.startsWith("no-")) {
                number = flagOf(name.part(3, name.size()));
                told = 0;
            }
            if (number == NONE) {
                blamedName = name;
                return fail(NO_OPTION, 2, NONE);
            }
            if (tool.options[number].takesValue()) {
                return bindValue(number, 2, split == NONE ? null : word.part(split + 1, word.size()));
            }
            if (split != NONE) {
                return fail(VALUE_AT_FLAG, 2, number);
            }
            draft.tellSwitch(number, told);
            return true;
        }

        private int flagOf(Text name) {
            int number = tool.optionOf(place, name);
            return number != NONE && tool.options[number].sort == FLAG ? number : NONE;
        }

        private boolean bindLetters(Text word) {
            for (int k = 1; k < word.size(); k++) {
                int number = tool.optionWithShort(place, word.at(k));
                if (number == NONE) {
                    return fail(NO_OPTION, k, NONE);
                }
                if (tool.options[number].takesValue()) {
                    return bindValue(number, k, k + 1 < word.size() ? word.part(k + 1, word.size()) : null);
                }
                draft.tellSwitch(number, 1);
            }
            return true;
        }

        private boolean bindValue(int number, int placeInWord, Text inWord) {
            boolean isNext = inWord == null;
            boolean isLacking = isNext && at + 1 >= line.size;
            // ahead of a second time: of both the BLAME is 8; in ENDS 8 is none, so that 9 stands
            if (isLacking && !isForEnds) {
                return fail(NO_VALUE, placeInWord, number);
            }
            if (draft.sources[number] == BY_LINE && tool.options[number].sort != LIST) {
                return fail(SECOND_VALUE, placeInWord, number);
            }
            draft.sources[number] = BY_LINE;
            if (isLacking) {
                waiting = number;
                return true;
            }
            at = isNext ? at + 1 : at;
            owners[at] = number;
            given[at] = isNext ? line.words[at] : inWord;
            return true;
        }

        private boolean fail(int which, int placeInWord, int option) {
            line.accuseWord(which, at, placeInWord, option);
            return false;
        }

        boolean readValues() {
            for (int i = 0; i < line.size && i < MOST_WORDS; i++) {
                int owner = owners[i];
                boolean fits = true;
                if (owner == THE_REST) {
                    fits = place.restSort == TEXT || given[i].intNumber(0, given[i].size()) != NO_NUMBER;
                } else if (owner != NOBODY) {
                    fits = draft.takeValue(owner, given[i]);
                }
                if (!fits) {
                    line.accuseWord(BAD_VALUE, i, 0, owner == THE_REST ? NONE : owner);
                    return false;
                }
            }
            return true;
        }

        boolean fill(Rows environment, Rows settings) {
            for (int i = 0; i < tool.optionCount; i++) {
                if (draft.has(i) && draft.sources[i] == BY_NONE && !fillOption(i, environment, settings)) {
                    line.accuseOption(BAD_ROW, i, draft.sources[i]);
                    return false;
                }
            }
            return true;
        }

        private boolean fillOption(int number, Rows environment, Rows settings) {
            Option option = tool.options[number];
            Text row = option.env == null ? null : environment.valueOf(option.env);
            draft.sources[number] = BY_ENVIRONMENT;
            if (row == null) {
                row = settings.valueOf(option.key);
                draft.sources[number] = BY_SETTINGS;
            }
            if (row != null) {
                return option.takesValue() ? draft.takeValue(number, row) : draft.takeSwitchRow(number, row);
            }
            draft.takeDefault(number);
            return true;
        }

        boolean check() {
            for (int i = 0; i < tool.optionCount; i++) {
                int which = draft.has(i) ? blameOf(i) : 0;
                if (which != 0) {
                    line.accuseOption(which, i, NONE);
                    return false;
                }
            }
            if (place.restNeed && draft.restCount == 0) {
                line.accuseOption(REST_NEEDED, NONE, NONE);
                return false;
            }
            return true;
        }

        private int blameOf(int number) {
            Option option = tool.options[number];
            if (option.tells(NEED) && draft.sources[number] == BY_NONE) {
                return NEEDED;
            }
            if (draft.isBeyond(number)) {
                return BEYOND;
            }
            if (!draft.isTold(number)) {
                return 0;
            }
            for (int i = 0; i < option.notCount; i++) {
                if (draft.isTold(option.nots[i])) {
                    return NOT_TOGETHER;
                }
            }
            for (int i = 0; i < option.withCount; i++) {
                if (!draft.isTold(option.withs[i])) {
                    return NOT_ALONE;
                }
            }
            return 0;
        }
    }

    /** What a LINE has made: of each OPTION of the PATH SOURCE and VALUE, and the REST WORDS. */
    private static final class DeskRecord {
        private Tool tool;
        private Place place;
        private final int[] sources = new int[MOST_OPTIONS];
        // as value() answers
        private final int[] numbers = new int[MOST_OPTIONS];
        // of text, day and one, as they were told
        private final Text[] texts = new Text[MOST_OPTIONS];
        private final int[] items = new int[MOST_OPTIONS * MOST_ITEMS];
        private final Text[] rest = new Text[MOST_WORDS];
        private int restCount;

        void begin(Tool tool, Place place) {
            this.tool = tool;
            this.place = place;
            restCount = 0;
            for (int i = 0; i < MOST_OPTIONS; i++) {
                sources[i] = BY_NONE;
                numbers[i] = 0;
                texts[i] = null;
            }
        }

        boolean has(int number) {
            return number >= 0 && number < tool.optionCount && place.isWithin(tool.options[number].place);
        }

        boolean isTold(int number) {
            return sources[number] <= BY_SETTINGS;
        }

        void addRest(Text word) {
            if (restCount < rest.length) {
                rest[restCount] = word;
                restCount++;
            }
        }

        void tellSwitch(int number, int told) {
            sources[number] = BY_LINE;
            numbers[number] = tool.options[number].sort == COUNT ? numbers[number] + 1 : told;
        }

        boolean takeValue(int number, Text given) {
            Option option = tool.options[number];
            texts[number] = given;
            switch (option.sort) {
                case INT:
                    return takeNumber(number, given.intNumber(0, given.size()));
                case DAY:
                    return takeNumber(number, given.dayNumber());
                case ONE:
                    int which = option.nameNumber(given);
                    return takeNumber(number, which == NONE ? NO_NUMBER : which);
                case LIST:
                    return takeItems(number, given);
                default:
                    return takeNumber(number, given.size());
            }
        }

        private boolean takeNumber(int number, long read) {
            numbers[number] = read == NO_NUMBER ? 0 : (int) read;
            return read != NO_NUMBER;
        }

        private boolean takeItems(int number, Text given) {
            int start = 0;
            for (int turn = 0; turn <= MOST_ITEMS; turn++) {
                int comma = given.placeOf(',', start);
                int end = comma == NONE ? given.size() : comma;
                long read = given.intNumber(start, end);
                if (read == NO_NUMBER || numbers[number] >= MOST_ITEMS) {
                    return false;
                }
                items[number * MOST_ITEMS + numbers[number]] = (int) read;
                numbers[number]++;
                if (comma == NONE) {
                    return true;
                }
                start = comma + 1;
            }
            return false;
        }

        boolean takeSwitchRow(int number, Text row) {
            if (tool.options[number].sort == FLAG) {
                numbers[number] = row.says("true") ? 1 : 0;
                return row.says("true") || row.says("false");
            }
            long read = row.wholeNumber(0, row.size(), 2);
            return read >= 1 && read <= MOST_COUNT_ROW && takeNumber(number, read);
        }

        void takeDefault(int number) {
            Option option = tool.options[number];
            boolean isThere = option.tells(DEFAULT);
            sources[number] = isThere ? BY_DEFAULT : BY_NONE;
            numbers[number] = isThere ? option.number : 0;
            texts[number] = isThere ? option.text : null;
        }

        boolean isBeyond(int number) {
            Option option = tool.options[number];
            if (option.sort == INT) {
                return sources[number] != BY_NONE && option.isBeyond(numbers[number]);
            }
            if (option.sort != LIST) {
                return false;
            }
            for (int i = 0; i < numbers[number] && i < MOST_ITEMS; i++) {
                if (option.isBeyond(items[number * MOST_ITEMS + i])) {
                    return true;
                }
            }
            return false;
        }

        int restByte(int which, int k) {
            if (which < 0 || which >= restCount) {
                return 0;
            }
            return Math.max(0, rest[which].at(k));
        }

        int part(int number, int k) {
            if (k < 0 || k >= numbers[number]) {
                return 0;
            }
            int sort = tool.options[number].sort;
            if (sort == LIST) {
                return items[number * MOST_ITEMS + k];
            }
            return sort == TEXT && texts[number] != null ? texts[number].at(k) : 0;
        }

        boolean matches(DeskRecord other) {
            if (place != other.place || restCount != other.restCount) {
                return false;
            }
            for (int i = 0; i < restCount; i++) {
                if (!rest[i].matches(other.rest[i])) {
                    return false;
                }
            }
            for (int i = 0; i < tool.optionCount; i++) {
                if (has(i) && !hasSameValue(other, i)) {
                    return false;
                }
            }
            return true;
        }

        private boolean hasSameValue(DeskRecord other, int number) {
            if (numbers[number] != other.numbers[number]) {
                return false;
            }
            int sort = tool.options[number].sort;
            int parts = sort == LIST || sort == TEXT ? numbers[number] : 0;
            for (int k = 0; k < parts; k++) {
                if (part(number, k) != other.part(number, k)) {
                    return false;
                }
            }
            return true;
        }

        void printOn(StringBuilder page) {
            // NAMES have no . in them, so that the key's parts are the PATH
            for (int i = 0; i < place.key.size(); i++) {
                int sign = place.key.at(i);
                page.append(sign == '.' ? ' ' : (char) sign);
            }
            for (int i = 0; i < tool.optionCount; i++) {
                if (has(i) && isTold(i)) {
                    printOption(page, i);
                }
            }
            if (restCount > 0) {
                page.append(" --");
            }
            for (int i = 0; i < restCount; i++) {
                page.append(' ');
                rest[i].printQuotedOn(page);
            }
        }

        private void printOption(StringBuilder page, int number) {
            Option option = tool.options[number];
            int times = option.sort == COUNT ? numbers[number] : 1;
            for (int i = 0; i < times; i++) {
                page.append(option.sort == FLAG && numbers[number] == 0 ? " --no-" : " --");
                option.name.printOn(page);
            }
            if (option.takesValue()) {
                page.append('=');
                printValue(page, number, option.sort);
            }
        }

        private void printValue(StringBuilder page, int number, int sort) {
            if (sort == INT) {
                page.append(numbers[number]);
                return;
            }
            if (sort != LIST) {
                if (texts[number] != null) {
                    texts[number].printQuotedOn(page);
                }
                return;
            }
            for (int k = 0; k < numbers[number]; k++) {
                if (k > 0) {
                    page.append(',');
                }
                page.append(items[number * MOST_ITEMS + k]);
            }
        }
    }

    /** The ENDS and the NEAR names of the latest LINE. */
    private static final class Proposals {
        private final Text[] ends = new Text[MOST_SUBS + MOST_OPTIONS];
        private int endCount = 0;
        private final Text[] near = new Text[MOST_OPTIONS];
        private int nearCount = 0;
        private int leastChanges;
        // two rows of the table of changes
        private int[] upper = new int[MOST_NAME + 1];
        private int[] lower = new int[MOST_NAME + 1];

        void forget() {
            endCount = 0;
            nearCount = 0;
        }

        Text endAt(int k) {
            return k >= 0 && k < endCount ? ends[k] : null;
        }

        Text nearAt(int k) {
            return k >= 0 && k < nearCount ? near[k] : null;
        }

        void proposeFirst(Text stem, Tool[] tools, int toolCount, Rows aliases) {
            for (int i = 0; i < toolCount && i < tools.length; i++) {
                propose(stem, tools[i].places[0].name);
            }
            for (int i = 0; i < aliases.size; i++) {
                propose(stem, aliases.keys[i]);
            }
        }

        void proposeNext(Text stem, Binder bound) {
            Tool tool = bound.tool;
            if (bound.waiting != NONE) {
                Option option = tool.options[bound.waiting];
                for (int i = 0; i < option.nameCount; i++) {
                    propose(stem, option.names[i]);
                }
                return;
            }
            if (bound.pathWords == bound.line.size) {
                for (int i = 1; i < tool.placeCount; i++) {
                    if (tool.places[i].parent == bound.place) {
                        propose(stem, tool.places[i].name);
                    }
                }
            }
            for (int i = 0; i < tool.optionCount && !bound.sawDashes; i++) {
                if (isOpenFor(bound.draft, i)) {
                    propose(stem, new Text("--", tool.options[i].name));
                }
            }
        }

        private boolean isOpenFor(DeskRecord draft, int number) {
            Option option = draft.tool.options[number];
            if (!draft.has(number) || option.tells(HIDDEN)) {
                return false;
            }
            return !option.takesValue() || option.sort == LIST || !draft.isTold(number);
        }

        private void propose(Text stem, Text name) {
            if (name.startsWith(stem) && endCount < ends.length) {
                ends[endCount] = name;
                endCount++;
            }
        }

        void findNearTools(Tool[] tools, int toolCount, Text blamed) {
            leastChanges = MOST_CHANGES;
            for (int i = 0; i < toolCount && i < tools.length; i++) {
                compare(blamed, tools[i].places[0].name);
            }
        }

        void findNearOptions(Tool tool, Place place, Text blamed) {
            leastChanges = MOST_CHANGES;
            for (int i = 0; i < tool.optionCount; i++) {
                if (place.isWithin(tool.options[i].place)) {
                    compare(blamed, tool.options[i].name);
                }
            }
        }

        private void compare(Text blamed, Text name) {
            int changes = changesBetween(blamed, name);
            if (changes > leastChanges) {
                return;
            }
            if (changes < leastChanges) {
                leastChanges = changes;
                nearCount = 0;
            }
            if (nearCount < near.length) {
                near[nearCount] = name;
                nearCount++;
            }
        }

        private int changesBetween(Text blamed, Text name) {
            int width = Math.min(name.size(), MOST_NAME);
            if (Math.abs(blamed.size() - width) > MOST_CHANGES) {
                return MOST_CHANGES + 1;
            }
            for (int j = 0; j <= width; j++) {
                upper[j] = j;
            }
            for (int i = 1; i <= blamed.size(); i++) {
                lower[0] = i;
                for (int j = 1; j <= width; j++) {
                    int swap = upper[j - 1] + (blamed.at(i - 1) == name.at(j - 1) ? 0 : 1);
                    lower[j] = Math.min(swap, Math.min(upper[j], lower[j - 1]) + 1);
                }
                int[] done = upper;
                upper = lower;
                lower = done;
            }
            return upper[width];
        }
    }
}
