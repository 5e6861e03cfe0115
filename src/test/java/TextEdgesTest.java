import java.util.regex.Matcher;
import java.util.regex.Pattern;

/** The sentences on the buffer, the two grammars and their errors that name a boundary. */
public final class TextEdgesTest {
    private static final String[] VERBS = {"shore", "island", "fold", "unfold", "move", "insert",
        "drop", "shift", "reverse", "remove", "metric"};
    private static final String FIRST_MAP = "map taxicab;shore 0 0,4 3,8 0,12 5,20 5;"
            + "island 30 0,50 0,50 20,30 20;island 35 5,45 5,40 15;";

    public static void main(String[] args) {
        bufferOf700Bytes();
        nothingIsAppended();
        mostSignificantByteFirst();
        everyByteBetweenWords();
        everyByteInANumber();
        numbersOfAnyLength();
        spacesAndLineFeeds();
        wordsLetterByLetter();
        textsCutWithinATerm();
        everyPrefixOfAMap();
        everyPrefixOfACoast();
        everyPrefixOfAScript();
        nothingBehindACoast();
        fewestPointsOfACoast();
        mostPointsOfACoast();
        mostCoastsOfAMap();
        mostCommandsOfAScript();
        rangesOfNumbers();
        rangesOfCoordinates();
        numbersBearNoMinus();
        firstErrorAlone();
        smallestCode();
        lengthsOfTexts();
        bufferIsEmptied();
        latestError();
        Check.finish();
    }

    private static String told(long answer, Ruler ruler) {
        return answer + ", error " + Check.error(ruler);
    }

    private static void map(String text, String due) {
        Ruler r = new Ruler();
        Check.same("loadMap of " + text, told(Check.load(r, text), r), due);
        staysIfWrong(text, r);
    }

    private static void coast(String text, String due) {
        Ruler r = new Ruler();
        Check.same("addCoast of " + text, told(Check.add(r, text), r), due);
        staysIfWrong(text, r);
    }

    private static void script(String text, String due) {
        Ruler r = new Ruler();
        Check.same("runScript of " + text, told(Check.run(r, text), r), due);
        staysIfWrong(text, r);
    }

    /** A text with an error is no change, and the map stays as it is. */
    private static void staysIfWrong(String text, Ruler ruler) {
        if (ruler.errorCode() != 0) {
            Check.same("the map after " + text, Check.map(ruler), FIRST_MAP);
            Check.same("the ledgers after " + text, Check.ledgers(ruler), "12+0-0 gap 0");
            Check.same("the changes after " + text, ruler.undoableCount(), 0);
        }
    }

    private static String good(int answer) {
        return answer + ", error 0 at -1";
    }

    private static String bad(int code, int offset) {
        return "-1, error " + code + " at " + offset;
    }

    private static String spaces(int count) {
        return " ".repeat(count);
    }

    // ---- the buffer

    /** "an input buffer of at most 700 bytes"; "the new number of bytes in the buffer". */
    private static void bufferOf700Bytes() {
        Ruler r = new Ruler();
        String end = "shore 1 2,3 4;";
        String text = "map king;" + spaces(700 - 9 - end.length()) + end;
        for (int i = 1; i <= 34; i++) {
            Check.same("bytes after append " + i, r.appendText(0, 0, 0, 0, 0), 20 * i);
        }
        Check.same("680 bytes are held", told(r.loadMap(680), r), bad(1, 0));
        Check.same("700 bytes are taken", Check.feed(r, text), 700);
        Check.refuses("701 bytes", r, Check.ARGUMENT, x -> x.loadMap(701));
        Ruler lastMissing = r.again();
        Check.same("699 of 700 bytes", told(lastMissing.loadMap(699), lastMissing), bad(1, 699));
        Check.same("all 700 bytes", told(r.loadMap(700), r), good(1));
        Check.same("the map at the end of 700 bytes", Check.map(r), "map king;shore 1 2,3 4;");
        Check.same("the buffer is empty then", r.appendText(0, 0, 0, 0, 0), 20);
    }

    /** "-1 if it would exceed 700, in which case nothing is appended". */
    private static void nothingIsAppended() {
        Ruler r = new Ruler();
        String end = "shore 1 2,3 4;";
        Check.feed(r, "map king;" + spaces(700 - 9 - end.length()) + end);
        Check.same("the 36th append", r.appendText(-1, -1, -1, -1, -1), -1);
        Check.leavesAll("the 37th append", r, x -> x.appendText(-1, -1, -1, -1, -1));
        Check.same("the full buffer", told(r.loadMap(700), r), good(1));
    }

    /** "the four bytes of each parameter, the most significant byte first". */
    private static void mostSignificantByteFirst() {
        Ruler r = new Ruler();
        // "island 1 2,34 5,6 78": each of the 20 bytes has a meaning of its own.
        r.appendText(0x69736c61, 0x6e642031, 0x20322c33, 0x3420352c, 0x36203738);
        Check.same("20 bytes in their order", told(r.addCoast(20), r), good(3));
        Check.same("their island", Check.points(r, 3), "island 1 2,34 5,6 78");
        for (int place = 0; place < 20; place++) {
            for (int sign : new int[] {0, 31, 127, 128, 255}) {
                char[] text = spaces(20).toCharArray();
                text[place] = (char) sign;
                map(new String(text), bad(1, place));
            }
        }
    }

    // ---- tokens

    /** "letters a to z", "Spaces (byte 32) and line feeds (byte 10) separate tokens". */
    private static void everyByteBetweenWords() {
        for (int sign = 0; sign < 256; sign++) {
            boolean separates = sign == 32 || sign == 10;
            boolean isLetter = sign >= 'a' && sign <= 'z';
            map("map" + (char) sign + "king;", separates ? good(0) : bad(1, isLetter ? 0 : 3));
            map("map" + (char) sign + " king;", separates ? good(0) : bad(1, isLetter ? 0 : 3));
            map("map king;" + (char) sign, separates ? good(0) : bad(1, 9));
        }
    }

    /** "A number is a maximal run of decimal digits"; "Every other byte is an invalid token". */
    private static void everyByteInANumber() {
        for (int sign = 0; sign < 256; sign++) {
            boolean isDigit = sign >= '0' && sign <= '9';
            Ruler r = new Ruler();
            int answer = Check.add(r, "shore 1" + (char) sign + "2,3 4");
            if (sign == 32 || sign == 10) {
                Check.same("byte " + sign, Check.points(r, answer), "shore 1 2,3 4");
            } else if (sign == '-') {
                Check.same("byte " + sign, Check.points(r, answer), "shore 1 -2,3 4");
            } else {
                Check.same("byte " + sign, told(answer, r), bad(1, isDigit ? 9 : 7));
            }
            Ruler tens = new Ruler();
            answer = Check.add(tens, "shore 1" + (char) sign + " 2,3 4");
            if (isDigit) {
                Check.same("digit " + sign, tens.pointX(answer, 0), 10 + sign - '0');
            }
        }
    }

    /** "A number is a maximal run of decimal digits of any length." */
    private static void numbersOfAnyLength() {
        String zeros = "0".repeat(680);
        Ruler r = new Ruler();
        Check.same("a long number", told(Check.add(r, "shore " + zeros + "7 1,2 3"), r), good(3));
        Check.same("its value", r.pointX(3, 0), 7);
        r = new Ruler();
        Check.add(r, "shore -" + zeros + "1000 1,2 3");
        Check.same("its value below 0", r.pointX(3, 0), -1000);
        coast("shore " + zeros + "1001 1,2 3", bad(2, 6));
        coast("shore " + "9".repeat(690) + " 1", bad(2, 6));
        coast("shore 1" + zeros + " 1,2 3", bad(2, 6));
        script("reverse " + zeros + "2;", good(1));
        script("reverse " + zeros + "6;", bad(2, 8));
        // Each is a small number if it wraps around in 16, 32 or 64 bits.
        for (String wraps : new String[] {"65537", "2147483648", "4294967296", "4294967297",
            "8589934593", "18446744073709551616", "18446744073709551617",
            "36893488147419103233", "10000000000000000000000000000000000000000"}) {
            coast("shore " + wraps + " 0,1 1", bad(2, 6));
            coast("shore 0 -" + wraps + ",1 1", bad(2, 9));
            script("reverse " + wraps + ";", bad(2, 8));
            script("drop 0 " + wraps + ";", bad(2, 7));
            script("fold 0 " + wraps + ";", bad(2, 7));
            script("shift 0 -" + wraps + " 0;", bad(2, 9));
        }
    }

    /** "separate tokens and have no other meaning". */
    private static void spacesAndLineFeeds() {
        map("\n map\n \nking ;\n\n", good(0));
        map("map king;shore-1-2,3-4;", good(1));
        map("map king;shore - \n 1 -\n2 , 3 4\n;", good(1));
        map("map king;shore1 2,3 4;", good(1));
        map("mapking;", bad(1, 0));
        map("ma p king;", bad(1, 0));
        map("map kin g;", bad(1, 4));
        map("map king;shore 1 2 , 3 4 5;", bad(1, 25));
        coast("shore 12,3 4", bad(1, 8));
        script("reverse0;reverse\n0\n;", good(2));
        script("re verse 0;", bad(1, 0));
        script("\n \n", good(0));
        map("", bad(1, 0));
        map(" \n", bad(1, 2));
        coast("  ", bad(1, 2));
    }

    /** "A word is a maximal run of the letters": one letter more, less or other is another. */
    private static void wordsLetterByLetter() {
        String[] words = {"map", "king", "taxicab", "shore", "island", "fold", "unfold", "move",
            "insert", "drop", "shift", "reverse", "remove", "metric"};
        for (String word : words) {
            for (int i = 0; i < word.length(); i++) {
                wrongWord(word, word.substring(0, i) + word.substring(i + 1));
                for (char other : new char[] {'a', 'z', (char) (word.charAt(i) + 1)}) {
                    wrongWord(word, word.substring(0, i) + other + word.substring(i + 1));
                    wrongWord(word, word.substring(0, i) + other + word.substring(i));
                }
                wrongWord(word, word.substring(0, i) + word.toUpperCase().charAt(i)
                        + word.substring(i + 1));
            }
            wrongWord(word, word + word);
            wrongWord(word, word + "a");
            wrongWord(word, word + "z");
        }
    }

    /** The other word is not taken where the word is, be it a map's, a metric's, a command's. */
    private static void wrongWord(String word, String other) {
        if (other.equals(word) || other.matches("fold|unfold|shore|island")) {
            return;
        }
        if (word.equals("map")) {
            map(other + " king;", bad(1, 0));
        } else if (word.equals("king") || word.equals("taxicab")) {
            map("map " + other + ";", bad(1, 4));
            script("metric " + other + ";", bad(1, 7));
        } else {
            script(other + " 0 0;", bad(1, 0));
            script("reverse 0;" + other + " 0 0;", bad(1, 10));
        }
    }

    /** "Parses the first bytes": a word or a number goes no further than the text. */
    private static void textsCutWithinATerm() {
        Ruler r = new Ruler();
        Check.feed(r, "shore 1 2,3 456");
        Check.same("a number cut", told(r.addCoast(13), r), good(3));
        Check.same("a number cut", Check.points(r, 3), "shore 1 2,3 4");
        Check.feed(r, "shore 1 2,3 4567");
        Check.same("a number cut", told(r.addCoast(15), r), good(4));
        Check.same("a number cut", Check.points(r, 4), "shore 1 2,3 456");
        Check.feed(r, "shore 1 2,3 4567");
        Check.same("a number not cut", told(r.addCoast(16), r), bad(2, 12));
        Check.feed(r, "metric king;");
        Check.same("a word cut", told(r.runScript(10), r), bad(1, 7));
        Check.feed(r, "map kings;");
        Check.same("a word cut", told(r.loadMap(8), r), bad(1, 8));
        // A number, a word and spaces that end with the 700th byte.
        String zeros = "0".repeat(686);
        Check.same("700 bytes", Check.feed(r, "shore 1 2,3 " + zeros + "49"), 700);
        Check.same("a number at the end", told(r.addCoast(700), r), good(5));
        Check.same("a number at the end", Check.points(r, 5), "shore 1 2,3 49");
        Check.feed(r, " ".repeat(695) + "shore");
        Check.same("a word at the end", told(r.runScript(700), r), bad(1, 700));
        Check.feed(r, " ".repeat(700));
        Check.same("spaces at the end", told(r.runScript(700), r), good(0));
        Check.feed(r, "a".repeat(700));
        Check.same("a word alone", told(r.runScript(700), r), bad(1, 0));
        for (String last : new String[] {"-", ";", "#", "7", "x", "z", "{", "\u00ff"}) {
            script(" ".repeat(699) + last, bad(1, 699));
        }
        Check.feed(r, "reverse 0;" + " ".repeat(689) + ";");
        Check.same("a ; at the end", told(r.runScript(700), r), bad(1, 699));
    }

    // ---- the grammars

    /** A text that ends too early: at its end, or at a word that is cut off. */
    private static String cut(String prefix) {
        Matcher word = Pattern.compile("[a-z]+$").matcher(prefix);
        boolean isCut = word.find() && !word.group().matches("map|king|taxicab|shore|island|fold"
                + "|unfold|move|insert|drop|shift|reverse|remove|metric");
        return bad(1, isCut ? word.start() : prefix.length());
    }

    /** "or the length of the text if the text ends too early", for each part of a map. */
    private static void everyPrefixOfAMap() {
        String text = "map king;shore 1 -2,-3 4;island 0 0,1 1,-2 2,3 3;";
        for (int length = 0; length <= text.length(); length++) {
            String prefix = text.substring(0, length);
            boolean isWhole = prefix.endsWith(";");
            int coasts = (int) prefix.chars().filter(sign -> sign == ';').count() - 1;
            map(prefix, isWhole ? good(coasts) : cut(prefix));
        }
    }

    /** The same for a coast, whose end is where enough points have been read. */
    private static void everyPrefixOfACoast() {
        String[] texts = {"shore 1 -2,-3 4,5 6", "island 0 0,1 1,-2 2,3 3"};
        for (int kind = 0; kind < 2; kind++) {
            for (int length = 0; length <= texts[kind].length(); length++) {
                String prefix = texts[kind].substring(0, length);
                String points = "-?[0-9] -?[0-9]";
                boolean isWhole = prefix.matches(kind == 0 ? "shore " + points + "(," + points
                        + "){1,}" : "island " + points + "(," + points + "){2,}");
                coast(prefix, isWhole ? good(3) : cut(prefix));
            }
        }
    }

    /** The same for a script with each of the commands. */
    private static void everyPrefixOfAScript() {
        String text = "shore 0 0,1 -1;island 0 0,1 1,2 2;fold 0 -5;unfold 0;move 0 1 -2 3;"
                + "insert 0 1 2 -3;drop 0 1;shift 0 -1 2;reverse 0;remove 3;metric taxicab;"
                + "metric king;";
        for (int length = 0; length <= text.length(); length++) {
            String prefix = text.substring(0, length);
            boolean isWhole = prefix.isEmpty() || prefix.endsWith(";");
            int commands = (int) prefix.chars().filter(sign -> sign == ';').count();
            script(prefix, isWhole ? good(commands) : cut(prefix));
        }
    }

    /** "Parses ... as one coast (see the grammar), with nothing behind it". */
    private static void nothingBehindACoast() {
        coast("shore 1 2,3 4 \n", good(3));
        for (String token : new String[] {";", "-", "5", "shore", "map", "x", "#", "\t"}) {
            coast("shore 1 2,3 4 " + token, bad(1, 14));
            coast("island 1 2,3 4,5 6 " + token, bad(1, 19));
        }
        coast("shore 1 2,3 4,", bad(1, 14));
        coast("shore 1 2,3 4,;", bad(1, 14));
    }

    /** "the end of the points of a coast that has fewer points than ... an island needs". */
    private static void fewestPointsOfACoast() {
        coast("shore 1 2", bad(1, 9));
        coast("shore 1 2  ", bad(1, 11));
        coast("shore 1 2,3 4", good(3));
        coast("island 1 2", bad(1, 10));
        coast("island 1 2,3 4", bad(1, 14));
        coast("island 1 2,3 4,5 6", good(3));
        map("map king;shore 1 2;", bad(1, 18));
        map("map king;shore 1 2,3 4;", good(1));
        map("map king;island 1 2;", bad(1, 19));
        map("map king;island 1 2,3 4 ;", bad(1, 24));
        map("map king;island 1 2,3 4,5 6;", good(1));
        map("map king;island 1 2,3 4,5 6;island 7 8,9 0;", bad(1, 42));
        map("map king;island 1 2,3 4,5 6;shore 7 8;", bad(1, 37));
        script("shore 1 2;", bad(1, 9));
        script("shore 1 2,3 4;", good(1));
        script("island 1 2,3 4;", bad(1, 14));
        script("island 1 2,3 4,5 6;island 1 2,3 4;", bad(1, 33));
        script("island 1 2,3 4,5 6;shore 1 2,3 4;", good(2));
        coast("shore", bad(1, 5));
        map("map king;shore;", bad(1, 14));
        map("map king;island ,1 2,3 4;", bad(1, 16));
    }

    /** "A coast in a text has at most 33 points." "the first number of the 34th point". */
    private static void mostPointsOfACoast() {
        for (String kind : new String[] {"shore", "island"}) {
            String full = Check.row(kind, 33);
            for (String before : new String[] {"", "island 1 2,3 4,5 6;" + full + ";"}) {
                int end = before.length() + full.length() + 1;
                script(before + full + ";", good(before.isEmpty() ? 1 : 3));
                script(before + full + ",1 2;", bad(3, end));
                script(before + full + ", \n1 2", bad(3, end + 2));
                script(before + full + ",-1 2;", bad(3, end));
                script(before + full + ",- x", bad(3, end));
                script(before + full + ",;", bad(1, end));
                map("map king;" + before + full + ";", good(before.isEmpty() ? 1 : 3));
                map("map king;" + before + full + ",0 0;", bad(3, end + 9));
                map("map king;" + before + full + ",-0 0;", bad(3, end + 9));
                map("map king;" + before + full + ",", bad(1, end + 9));
            }
            int end = full.length() + 1;
            coast(full, good(3));
            coast(full + ",1 2", bad(3, end));
            coast(full + ",1", bad(3, end));
            coast(full + ",-", bad(3, end));
            coast(full + ",", bad(1, end));
            coast(full + ",x", bad(1, end));
            coast(full + ",,", bad(1, end));
            coast(full + ",#", bad(1, end));
            coast(full + " 1", bad(1, end));
            coast(full + ";", bad(1, end - 1));
            String lastPointWrong = full.substring(0, full.lastIndexOf(',') + 1);
            coast(lastPointWrong + "-1001 0", bad(2, lastPointWrong.length() + 1));
            coast(lastPointWrong + "0 1001", bad(2, lastPointWrong.length() + 2));
            coast(lastPointWrong + "-1000 1000", good(3));
        }
    }

    /** "A map holds 0 to 6 coastlines." "the first token of the 7th coast of a map". */
    private static void mostCoastsOfAMap() {
        String six = "map king;" + "shore 0 0,1 1;island 0 0,1 1,2 2;".repeat(3);
        int end = six.length();
        map("map king;", good(0));
        map(six, good(6));
        map(six + " \n", good(6));
        map(six.substring(0, 9 + 14 + 19 + 14 + 19 + 14), good(5));
        for (String text : new String[] {"shore 0 0,1 1;", "island 0 0,1 1,2 2;", "shore", "island",
            "shore;", "island x", "shore 0 0"}) {
            map(six + text, bad(3, end));
            map(six + "\n" + text, bad(3, end + 1));
        }
        for (String token : new String[] {";", ",", "-", "0", "7", "#", "map", "king", "fold",
            "metric", "shores", "islan", "s", "A"}) {
            map(six + token, bad(1, end));
        }
        map(six.substring(0, end - 1), bad(1, end - 1));
        map(six.substring(0, end - 1) + ",1001 2;", bad(2, end));
    }

    /** "A script has at most 20 commands." "the first token of the 21st command". */
    private static void mostCommandsOfAScript() {
        String nineteen = "shift 0 1 -1;metric king;reverse 2;".repeat(6) + "reverse 0;";
        String twenty = nineteen + "reverse 1;";
        int end = twenty.length();
        script("", good(0));
        script(nineteen, good(19));
        script(twenty, good(20));
        script(twenty + "\n ", good(20));
        for (String verb : VERBS) {
            script(twenty + verb, bad(3, end));
            script(twenty + " " + verb + " 0;", bad(3, end + 1));
            script(twenty + verb + "s 0;", bad(1, end));
        }
        for (String token : new String[] {";", ",", "-", "0", "#", "map", "king", "x", "I"}) {
            script(twenty + token, bad(1, end));
        }
        script(nineteen + "reverse 6;", bad(2, nineteen.length() + 8));
        script(twenty.substring(0, end - 1), bad(1, end - 1));
        for (String verb : VERBS) {
            script(verb, bad(1, verb.length()));
            script(verb + ";", bad(1, verb.length()));
        }
    }

    /** The number at # has this range: its ends are allowed, and the next ones are not. */
    private static void range(String template, int least, int greatest) {
        int offset = template.indexOf('#');
        Ruler r = new Ruler();
        for (int value : new int[] {least, greatest, 0}) {
            Check.run(r, template.replace("#", String.valueOf(value)));
            Check.same(template + " with " + value, Check.error(r), "0 at -1");
        }
        script(template.replace("#", String.valueOf(greatest + 1)), bad(2, offset));
        script(template.replace("#", "99999"), bad(2, offset));
        script(template.replace("#", "x"), bad(1, offset));
        script(template.replace("#", "--1"), bad(1, least < 0 ? offset + 1 : offset));
        if (least < 0) {
            script(template.replace("#", String.valueOf(least - 1)), bad(2, offset + 1));
            script(template.replace("#", "-99999"), bad(2, offset + 1));
            script(template.replace("#", "- 99999"), bad(2, offset + 2));
            script(template.replace("#", "-x"), bad(1, offset + 1));
        }
    }

    /** "0 to 5", "0 to 128", "-50 to 50", "-2000 to 2000": each number of each command. */
    private static void rangesOfNumbers() {
        for (String rest : new String[] {"fold # 0;", "unfold #;", "move # 0 0 0;", "drop # 0;",
            "insert # 0 0 0;", "shift # 0 0;", "reverse #;", "remove #;"}) {
            range(rest, 0, 5);
            range("metric king;" + rest, 0, 5);
        }
        for (String rest : new String[] {"move 0 # 0 0;", "insert 0 # 0 0;", "drop 0 #;"}) {
            range(rest, 0, 128);
        }
        range("fold 0 #;", -50, 50);
        range("shift 0 # 0;", -2000, 2000);
        range("shift 0 0 #;", -2000, 2000);
    }

    /** "The coordinates of points are -1000 to 1000." */
    private static void rangesOfCoordinates() {
        for (String rest : new String[] {"move 0 0 # 0;", "move 0 0 0 #;", "insert 0 0 # 0;",
            "insert 0 0 0 #;", "shore # 0,1 1;", "shore 0 #,1 1;", "shore 0 0,# 1;",
            "shore 0 0,1 #;", "island # 0,1 1,2 2;", "island 0 0,1 1,2 #;"}) {
            range(rest, -1000, 1000);
        }
        for (String point : new String[] {"1000 1000", "-1000 -1000", "1000 -1000"}) {
            map("map king;shore 0 0," + point + ";", good(1));
            coast("island 0 0,1 1," + point, good(3));
        }
        map("map king;shore 1001 0,1 1;", bad(2, 15));
        map("map king;shore 0 0,1 -1001;", bad(2, 22));
        coast("island 0 0,-1001 0,2 2", bad(2, 12));
        coast("island 0 0,0 1001,2 2", bad(2, 13));
    }

    /** A number is not an integer: where the grammar has a number, a - is not allowed. */
    private static void numbersBearNoMinus() {
        for (String text : new String[] {"fold # 0;", "unfold #;", "move # 0 0 0;", "drop # 0;",
            "insert # 0 0 0;", "shift # 0 0;", "reverse #;", "remove #;", "move 0 # 0 0;",
            "insert 0 # 0 0;", "drop 0 #;"}) {
            int offset = text.indexOf('#');
            script(text.replace("#", "-0"), bad(1, offset));
            script(text.replace("#", "-1"), bad(1, offset));
            script(text.replace("#", "-999"), bad(1, offset));
            script(text.replace("#", "- 0"), bad(1, offset));
        }
        script("fold 0 -0;shift 0 -0 - 0;move 0 0 -0 -0;", good(3));
    }

    // ---- errors

    /** "Parsing stops at the first token that causes an error." */
    private static void firstErrorAlone() {
        map("map king;shore 1001 x;", bad(2, 15));
        map("map king;shore x 1001;", bad(1, 15));
        map("map king;shore 0 -1001 #", bad(2, 18));
        script("fold 6 51;", bad(2, 5));
        script("move 0 129 1001 x;", bad(2, 7));
        script("fold 0 51;fold 6 0;", bad(2, 7));
        script("reverse 0,reverse 6;", bad(1, 9));
        script(Check.row("shore", 33) + ",0 1001;", bad(3, Check.row("shore", 33).length() + 1));
        coast("shore 0 0;1001", bad(1, 9));
    }

    /** "If several errors apply to the same token, the one with the smallest code". */
    private static void smallestCode() {
        String full = Check.row("shore", 33) + ",";
        int end = full.length();
        coast(full + "1000 0", bad(3, end));
        coast(full + "1001 0", bad(2, end));
        coast(full + "99999999999999999999 0", bad(2, end));
        // The - itself is in no range: only code 3 applies to it.
        coast(full + "-1001 0", bad(3, end));
        coast(full + "shore", bad(1, end));
        String six = "map king;" + "shore 0 0,1 1;".repeat(6);
        map(six + "9999;", bad(1, six.length()));
        String twenty = "reverse 0;".repeat(20);
        script(twenty + "9999;", bad(1, 200));
        map("map king;shore 0 0 9999;", bad(1, 19));
        script("reverse 0 9999;", bad(1, 10));
    }

    /** "if length is negative or greater than the number of bytes in the buffer". */
    private static void lengthsOfTexts() {
        Ruler r = new Ruler();
        Check.run(r, "reverse 0;fold");
        Check.feed(r, "map king;shore 1 2,3 4;");
        for (int length : new int[] {-1, -40, Integer.MIN_VALUE, 41, 60, 700, Integer.MAX_VALUE}) {
            Check.refuses("loadMap " + length, r, Check.ARGUMENT, x -> x.loadMap(length));
            Check.refuses("addCoast " + length, r, Check.ARGUMENT, x -> x.addCoast(length));
            Check.refuses("runScript " + length, r, Check.ARGUMENT, x -> x.runScript(length));
        }
        Ruler empty = new Ruler();
        for (int length : new int[] {-1, 1, Integer.MIN_VALUE, Integer.MAX_VALUE}) {
            Check.refuses("loadMap " + length, empty, Check.ARGUMENT, x -> x.loadMap(length));
            Check.refuses("addCoast " + length, empty, Check.ARGUMENT, x -> x.addCoast(length));
            Check.refuses("runScript " + length, empty, Check.ARGUMENT, x -> x.runScript(length));
        }
        Check.same("loadMap of no byte", told(empty.loadMap(0), empty), bad(1, 0));
        Check.same("addCoast of no byte", told(empty.addCoast(0), empty), bad(1, 0));
        Check.same("runScript of no byte", told(empty.runScript(0), empty), good(0));
        Ruler part = r.again();
        Check.same("loadMap of all 40", told(part.loadMap(40), part), good(1));
        part = r.again();
        Check.same("loadMap of 9 of 40", told(part.loadMap(9), part), good(0));
        part = r.again();
        Check.same("loadMap of 22 of 40", told(part.loadMap(22), part), bad(1, 22));
        part = r.again();
        Check.same("loadMap of 0 of 40", told(part.loadMap(0), part), bad(1, 0));
        part = r.again();
        Check.same("runScript of 0 of 40", told(part.runScript(0), part), good(0));
    }

    /** "The buffer is emptied in any case" by loadMap; "The buffer is emptied." by the others. */
    private static void bufferIsEmptied() {
        Check.Call[] calls = {x -> x.loadMap(40), x -> x.loadMap(9), x -> x.loadMap(1),
            x -> x.loadMap(0), x -> x.addCoast(40), x -> x.addCoast(0), x -> x.runScript(40),
            x -> x.runScript(0)};
        for (String text : new String[] {"map king;shore 1 2,3 4;", "shore 1 2,3 4",
            "reverse 0;reverse 0;reverse 0;"}) {
            for (int i = 0; i < calls.length; i++) {
                Ruler r = new Ruler();
                Check.feed(r, text + spaces(40 - text.length()));
                calls[i].on(r);
                Check.refuses("a byte after call " + i, r, Check.ARGUMENT, x -> x.runScript(1));
                Check.same("the buffer after call " + i, r.appendText(0, 0, 0, 0, 0), 20);
            }
        }
        Ruler r = new Ruler();
        Check.feed(r, "reverse 0;reverse 0;reverse 0;reverse 0;");
        r.runScript(10);
        Check.feed(r, "reverse 1;");
        Check.same("a new text begins at offset 0", told(r.runScript(20), r), good(1));
    }

    /** "of the latest call of loadMap, addCoast or runScript that did not throw". */
    private static void latestError() {
        Check.same("no such call", Check.error(new Ruler()), "0 at -1");
        Check.Call[] wrong = {x -> Check.load(x, "map"), x -> Check.add(x, "map"),
            x -> Check.run(x, "fold 6 0;")};
        String[] errors = {"1 at 3", "1 at 0", "2 at 5"};
        Check.Call[] right = {x -> Check.load(x, "map king;"), x -> Check.add(x, "shore 1 2,3 4"),
            x -> Check.run(x, ""), x -> Check.run(x, "reverse 5;"),
            x -> Check.run(x, "reverse 0;")};
        for (int i = 0; i < wrong.length; i++) {
            for (int j = 0; j < wrong.length; j++) {
                Ruler r = new Ruler();
                wrong[j].on(r);
                wrong[i].on(r);
                Check.same("error " + i + " after " + j, Check.error(r), errors[i]);
            }
            for (int j = 0; j < right.length; j++) {
                Ruler r = new Ruler();
                wrong[i].on(r);
                Check.refuses("a text of 1 byte", r, Check.ARGUMENT, x -> x.addCoast(1));
                Check.same("error " + i + " stays", Check.error(r), errors[i]);
                right[j].on(r);
                Check.same("error " + i + " is gone after " + j, Check.error(r), "0 at -1");
            }
        }
        Ruler full = Check.with("map king;" + "shore 0 0,1 1;".repeat(6));
        Check.load(full, "mapp");
        Check.feed(full, "shore 1 2,3 4");
        Check.refuses("a seventh", full, Check.STATE, x -> x.addCoast(13));
        Check.same("the error of loadMap stays", Check.error(full), "1 at 0");
    }
}
