import java.io.IOException;
import java.nio.charset.StandardCharsets;
import java.nio.file.Files;
import java.nio.file.Path;
import java.util.function.Consumer;
import java.util.function.ToLongFunction;

/**
 * The document read sentence by sentence: each one that names a boundary case (too small, too large, empty, full, a
 * refused call, what stays as it is) is quoted here, in the document's order, ahead of a test of its own.
 */
public final class BoundariesTest {
    private static final int BAD = -1, STATE = -2, FULL = -3, NONE = -9, NOT_SO_MANY = -5, NO = -1000000;
    private static final int LOW = Integer.MIN_VALUE, HIGH = Integer.MAX_VALUE;
    private static final Path DOCUMENT = Path.of("..", "shared", "DOC.md");
    private static String document = "";
    private static String about = "";
    private static int sentences = 0;
    private static int wrong = 0;

    public static void main(String[] args) throws IOException {
        if (Files.isReadable(DOCUMENT)) {
            document = plain(Files.readString(DOCUMENT));
        }
        people();
        askings();
        hangs();
        theText();
        tokens();
        faults();
        daysAndDeeds();
        undone();
        aDayGoesBy();
        nothingIsChanged();
        take();
        bounds();
        sorts();
        expected();
        wise();
        rings();
        great();
        kinds();
        images();
        refused();
        numbersThatAreNotAsTold();
        promisesOfTheTown();
        promisesOfADay();
        promisesOfTheRest();
        manyCalls();
        System.out.println(sentences + " sentences, " + wrong + " answers are not as due");
        if (wrong != 0) {
            System.exit(1);
        }
    }

    // ---- how a sentence is tested

    private static String plain(String words) {
        return words.replace("`", "").replaceAll("\\s+", " ");
    }

    /** The next answers are due by these words of the document. */
    private static void sentence(String words) {
        about = words;
        sentences++;
        if (!document.isEmpty() && !document.contains(words)) {
            wrong++;
            System.out.println("the document does not say: " + words);
        }
    }

    private static void due(String call, long got, long want) {
        if (got != want) {
            wrong++;
            System.out.println(call + " answered " + got + ", due is " + want + " by '" + about + "'");
        }
    }

    private static void enter(SleeveSlips x, String text) {
        byte[] bytes = text.getBytes(StandardCharsets.ISO_8859_1);
        for (int at = 0; at < bytes.length; at += 8) {
            int n = Math.min(8, bytes.length - at);
            long v = 0;
            for (int i = 0; i < n; i++) {
                v = v << 8 | bytes[at + i] & 0xff;
            }
            x.type(v, n);
        }
    }

    private static int read(String text) {
        SleeveSlips x = new SleeveSlips();
        enter(x, text);
        return x.town();
    }

    private static void reads(String text, int items) {
        due("town() of '" + text + "'", read(text), items);
    }

    private static void faultAt(String text, int place) {
        due("town() of '" + text + "'", read(text), -10 - place);
    }

    private static SleeveSlips told(String text) {
        SleeveSlips x = new SleeveSlips();
        enter(x, text);
        int items = x.town();
        due("items of '" + text + "' above 0", items < 0 ? items : 1, 1);
        return x;
    }

    private static void passDays(SleeveSlips x, int days) {
        for (int i = 0; i < days; i++) {
            x.day();
        }
    }

    private static void promiseAll(SleeveSlips x, int... askings) {
        for (int a : askings) {
            due("promise(" + a + ") is taken", Math.min(x.promise(a), 1), 1);
        }
    }

    /** Two people, six askings, two hangs; it is day 1, with slips, deeds, an image, a sort, a text and a trace. */
    private static SleeveSlips busy() {
        SleeveSlips x = told("person 3 2 4;person 1 1 2;ask 0 0 1 11 3;ask 0 0 9 22 9;ask 1 0 5 33 8;ask 0 1 4 44 5;"
                + "ask 0 1 2 55 9;ask 1 2 1 66 4;hangs 4 3;hangs 5 2;");
        x.sort(0, 3, 20, 2);
        x.sort(2, 4, 7, 3);
        promiseAll(x, 0, 1, 2);
        x.day();
        x.keep(1);
        promiseAll(x, 3, 4);
        x.letOff(4);
        x.rate(4, 0);
        enter(x, "person 1");
        return x;
    }

    /** All that can be asked of an object, beside rate, which adds to the trace. */
    private static String seen(SleeveSlips x) {
        StringBuilder all = new StringBuilder();
        for (int p = 0; p < 4; p++) {
            for (int i = 0; i < 5; i++) {
                all.append(x.person(p, i)).append(' ').append(x.slip(p, i)).append(' ');
            }
            for (int what = 0; what < 2; what++) {
                all.append(x.take(p, what)).append(' ').append(x.bound(p, what)).append(' ');
                all.append(x.expected(p, 5, what)).append(' ');
            }
        }
        for (int a = 0; a < 8; a++) {
            for (int what = 0; what < 8; what++) {
                all.append(x.asking(a, what)).append(' ');
            }
            all.append(x.order(a)).append(' ');
        }
        for (int what = 0; what < 5; what++) {
            all.append(x.now(what)).append(' ').append(x.count(what)).append(' ').append(x.great(20, 9, what)).append(' ');
            all.append(x.fewest(what)).append(' ').append(x.wise(what, 4, 1)).append(' ');
        }
        return all.append(x.ring()).append(' ').append(x.trace()).toString();
    }

    /** What the images and the deeds hold; asking it changes the object. */
    private static String hidden(SleeveSlips x) {
        StringBuilder all = new StringBuilder();
        for (int image = -1; image < 2; image++) {
            all.append(image < 0 ? 0 : x.back(image)).append(' ').append(x.now(0)).append(' ').append(x.now(1)).append(' ');
            all.append(x.now(2)).append(' ').append(x.now(3)).append(' ').append(x.now(4)).append('|');
            for (int i = 0; i < 4; i++) {
                all.append(x.undo()).append(' ').append(x.now(2)).append(' ');
                for (int p = 0; p < 2; p++) {
                    all.append(x.slip(p, 0)).append(x.slip(p, 1)).append(x.slip(p, 2));
                }
            }
        }
        return all.append(x.town()).append(' ').append(x.clear()).toString();
    }

    /** A call answers so, and leaves a busy object as one like it is that was not called. */
    private static void changesNothing(String name, ToLongFunction<SleeveSlips> call, long want) {
        changesNothing(name, x -> { }, call, want);
    }

    private static void changesNothing(String name, Consumer<SleeveSlips> ahead, ToLongFunction<SleeveSlips> call, long want) {
        SleeveSlips called = busy();
        SleeveSlips twin = busy();
        ahead.accept(called);
        ahead.accept(twin);
        due(name, call.applyAsLong(called), want);
        due(name + " leaves all as it was", seen(called).equals(seen(twin)) ? 1 : 0, 1);
        due(name + " leaves images, deeds and the text", hidden(called).equals(hidden(twin)) ? 1 : 0, 1);
    }

    // ---- terms

    private static final String PERSON = "person 1 1 1;";
    private static final String ASK = "ask 0 0 1 1 0;";
    private static final String HANG = "hangs 0 1;";

    private static void people() {
        sentence("(4 at most): ROOM (1 .. 5 SLIPS)");
        reads(PERSON.repeat(4), 4);
        faultAt(PERSON.repeat(5), 52);
        due("the fourth is one", told(PERSON.repeat(3) + "person 4 2 6;").person(3, 0), 4);
        reads("person 1 1 1;", 1);
        reads("person 5 1 1;", 1);
        faultAt("person 0 1 1;", 7);
        faultAt("person 6 1 1;", 7);
        SleeveSlips full = told("person 5 1 1;" + "ask 0 0 9 1 9;".repeat(6));
        promiseAll(full, 0, 1, 2, 3, 4);
        due("a sixth slip", full.promise(5), FULL);
        SleeveSlips last = told("person 5 1 1;".repeat(4) + "ask 3 0 9 1 9;".repeat(6));
        promiseAll(last, 0, 1, 2, 3, 4);
        due("a sixth slip of the fourth", last.promise(5), FULL);
        last.letOff(0);
        due("room for a fifth of the fourth", last.promise(5), 5);
        due("his last place", last.slip(3, 4), 5);
        sentence("WORK a day (1 .. 3)");
        reads("person 1 1 1;", 1);
        reads("person 1 3 1;", 1);
        faultAt("person 1 0 1;", 9);
        faultAt("person 1 4 1;", 9);
        sentence("a PRICE for each unit of WORK (0 .. 9)");
        reads("person 1 1 0;", 1);
        reads("person 1 1 9;", 1);
        faultAt("person 1 1 10;", 11);
        due("no price", told("person 1 1 0;").great(10, 9, 0), 0);
        due("the most for each unit", told("person 1 3 9;").great(30, 9, 0), 270);
    }

    private static void askings() {
        sentence("ASKINGS 0 .. (8 at most)");
        reads(PERSON + ASK.repeat(8), 9);
        faultAt(PERSON + ASK.repeat(9), 13 + 8 * 14);
        due("the eighth is number 7", told(PERSON + ASK.repeat(7) + "ask 0 0 1 77 0;").asking(7, 3), 77);
        sentence("on which DAY (0 .. 9)");
        reads(PERSON + "ask 0 0 1 1 9;", 2);
        reads(PERSON + "ask 0 9 1 1 9;", 2);
        faultAt(PERSON + "ask 0 10 1 1 9;", 19);
        sentence("WORK (1 .. 9)");
        reads(PERSON + "ask 0 0 1 1 0;", 2);
        reads(PERSON + "ask 0 0 9 1 0;", 2);
        faultAt(PERSON + "ask 0 0 0 1 0;", 21);
        faultAt(PERSON + "ask 0 0 10 1 0;", 21);
        sentence("WORTH (1 .. 99)");
        reads(PERSON + "ask 0 0 1 1 0;", 2);
        reads(PERSON + "ask 0 0 1 99 0;", 2);
        faultAt(PERSON + "ask 0 0 1 0 0;", 23);
        faultAt(PERSON + "ask 0 0 1 100 0;", 23);
        sentence("DUE (a DAY, no earlier, 0 .. 9)");
        reads(PERSON + "ask 0 0 1 1 0;", 2);
        reads(PERSON + "ask 0 5 1 1 5;", 2);
        reads(PERSON + "ask 0 9 1 1 9;", 2);
        faultAt(PERSON + "ask 0 5 1 1 4;", 25);
        faultAt(PERSON + "ask 0 9 1 1 8;", 25);
        faultAt(PERSON + "ask 0 9 1 1 10;", 25);
    }

    private static void hangs() {
        sentence("HANGS (8 at most)");
        reads(PERSON + ASK.repeat(2) + HANG.repeat(8), 11);
        faultAt(PERSON + ASK.repeat(2) + HANG.repeat(9), 13 + 28 + 80);
        due("eight of them", told(PERSON + ASK.repeat(2) + HANG.repeat(8)).count(2), 8);
        sentence("an ASKING is not worked on until another one is KEPT");
        SleeveSlips x = told("person 5 3 0;ask 0 0 3 1 9;ask 0 0 4 1 9;hangs 0 1;");
        promiseAll(x, 0, 1);
        x.day();
        due("not worked on", x.asking(0, 6), 3);
        due("that on which it hangs", x.asking(1, 6), 1);
        x.day();
        due("worked on from the unit behind", x.asking(0, 6), 1);
        SleeveSlips gone = told("person 5 3 0;ask 0 0 1 1 9;ask 0 0 1 1 9;ask 0 0 1 1 9;hangs 0 1;hangs 2 0;");
        promiseAll(gone, 0, 1, 2);
        gone.letOff(1);
        passDays(gone, 9);
        due("what is gone was not kept", gone.asking(0, 6), 1);
        due("nor is it that hangs on this one", gone.asking(2, 6), 1);
        SleeveSlips least = told("person 5 1 0;ask 0 0 1 1 9;ask 0 0 1 1 9;hangs 1 0;");
        promiseAll(least, 1, 0);
        due("the least number, too, can be the other one", least.day() * 10 + least.asking(0, 5), 12);
        due("kept behind it", least.day() * 10 + least.asking(1, 5), 12);
    }

    private static void theText() {
        sentence("They are a text (300 bytes at most)");
        String all = PERSON + ASK.repeat(8) + HANG.repeat(8);
        String blanks = " ".repeat(300 - all.length());
        reads(all + blanks, 17);
        reads(blanks + all, 17);
        SleeveSlips x = new SleeveSlips();
        enter(x, all + blanks);
        due("300 of them", x.count(4), 300);
        due("one more", x.type(32, 1), FULL);
        sentence("read byte by byte, blanks (32) between TOKENS");
        reads("person 2 3 4 ;", 1);
        reads(" person  2   3    4     ;      ", 1);
        reads("person 2 3 4;ask 0 1 2 3 4;", 2);
        for (int other : new int[] {0, 9, 10, 11, 12, 13, 31, 33, 95, 127, 128, 160, 255}) {
            faultAt("person 2" + (char) other + "3 4;", 8);
            faultAt("person 2 3 4;" + (char) other, 13);
            faultAt((char) other + "person 2 3 4;", 0);
        }
        faultAt("per son 2 3 4;", 0);
        faultAt("person 1 2 3 4;", 13);
        reads("person 2 3 4;ask 0 0 1 1 2 ;", 2);
        faultAt("person 2 3 4;ask 0 0 1 1 2 2;", 27);
        sentence("ITEMS, each ended by ;");
        faultAt("person 1 1 1", 12);
        faultAt("person 1 1 1 person 1 1 1;", 13);
        faultAt("person 1 1 1;;", 13);
        faultAt(";", 0);
        faultAt(PERSON + "ask 0 0 1 1 0 ask", 27);
        faultAt(PERSON + ASK + ASK + "hangs 0 1 hangs", 51);
        sentence("ask P D W V U (one of the PEOPLE; DAY, WORK, WORTH, DUE)");
        String three = PERSON.repeat(3);
        reads(three + "ask 0 0 1 1 0;ask 2 0 1 1 0;", 5);
        faultAt(three + "ask 3 0 1 1 0;", 43);
        SleeveSlips asked = told(three + "ask 2 3 4 5 6;");
        for (int what = 0; what < 5; what++) {
            due("asking(0, " + what + ")", asked.asking(0, what), 2 + what);
        }
        sentence("hangs A B (two ASKINGS, A on B; told again: once more)");
        SleeveSlips again = told(PERSON + ASK + ASK + HANG + HANG + HANG);
        due("told three times", again.count(2), 3);
        due("A on B", again.order(0), 1);
        due("behind it", again.order(1), 0);
    }

    private static void tokens() {
        sentence("TOKENS are words of letters a .. z (person, ask, hangs), NUMBERS and ;");
        for (int b = 0; b < 256; b++) {
            boolean isToken = b == ' ' || b >= '0' && b <= '9' || b == ';' || b >= 'a' && b <= 'z';
            // All but a blank are a fault there; behind a word, a letter makes another word of it.
            if (b != ' ') {
                faultAt("  " + (char) b, 2);
            }
            faultAt("person" + (char) b, b == ' ' ? 7 : b >= 'a' && b <= 'z' ? 0 : b >= '1' && b <= '5' ? 7 : 6);
            if (!isToken) {
                faultAt("person 1" + (char) b + "1 1;", 8);
                faultAt("person 1 1 1" + (char) b, 12);
            }
        }
        for (String word : new String[] {"p", "perso", "persons", "pperson", "asks", "as", "hang", "hangss", "a", "z", "askask", "qerson", "persom", "bsk", "iangs"}) {
            faultAt(PERSON + word + " 0 0 1 1 0;", 13);
        }
        for (String word : new String[] {"PERSON", "Ask", "Hangs"}) {
            faultAt(PERSON + word + " 0 0 1 1 0;", 13);
        }
        // A capital ends the word ahead of it, which is none of these.
        faultAt(PERSON + "hangS 0 1;", 13);
        faultAt(PERSON + "asK 0 0 1 1 0;", 13);
    }

    private static void faults() {
        String two = PERSON + ASK + ASK;
        sentence("FAULT: the place of the first byte of the first TOKEN that can't stand there");
        faultAt("person 9 9 99;", 7);
        faultAt("person 1 9 99;", 9);
        faultAt("person 1 1 99;", 11);
        faultAt("person 1 1 12 ?", 11);
        faultAt(PERSON + "ask 0 0 1 1 ask", 25);
        faultAt("person person 1 1 1;", 7);
        faultAt("person ; 1 1 1;", 7);
        faultAt("   7", 3);
        faultAt("?", 0);
        sentence("a fifth person");
        faultAt(PERSON.repeat(4) + " person", 53);
        faultAt(PERSON.repeat(4) + "person 0 0 10", 52);
        sentence("a ninth ask");
        faultAt(PERSON + ASK.repeat(8) + "  ask", 13 + 112 + 2);
        sentence("a ninth hangs");
        faultAt(two + HANG.repeat(8) + "hangs", 41 + 80);
        sentence("a P, A, B that was not told");
        faultAt("ask 0 0 1 1 0;" + PERSON, 4);
        faultAt(PERSON + "ask 1 0 1 1 0;" + PERSON, 17);
        faultAt(PERSON + "ask 99 0 1 1 0;", 17);
        faultAt("hangs 0 1;" + two, 6);
        faultAt(two + "hangs 2 0;" + ASK, 47);
        faultAt(two + "hangs 0 2;" + ASK, 49);
        faultAt(PERSON + ASK + "hangs 0 1;", 35);
        sentence("a B that is A");
        faultAt(two + "hangs 0 0;", 49);
        faultAt(two + "hangs 1 1;", 49);
        faultAt(PERSON + ASK + "hangs 0 0;", 35);
        sentence("a U less than its D");
        faultAt(PERSON + "ask 0 1 1 1 0;", 25);
        sentence("a NUMBER beyond what it may be");
        faultAt("person 6 1 1;", 7);
        faultAt("person 1 99 1;", 9);
        faultAt("person 1 1 99;", 11);
        sentence("of a byte that begins none");
        faultAt(" !", 1);
        faultAt("person -1 1 1;", 7);
        faultAt("person +1 1 1;", 7);
        faultAt("person 1,1,1;", 8);
        sentence("a word that is none of these");
        faultAt(PERSON + "town 1;", 13);
        faultAt(PERSON + "ask zero 0 1 1 0;", 17);
        sentence("a NUMBER above 99 or with a 0 ahead of others, that TOKEN's");
        faultAt(PERSON + "ask 0 0 1 100 0;", 23);
        faultAt(PERSON + "ask 0 0 1 999999999999999999999999999 0;", 23);
        for (String wrapped : new String[] {"256", "65537", "4294967297", "18446744073709551617", "2147483648"}) {
            faultAt("person " + wrapped + " 1 1;", 7);
        }
        faultAt("person 01 1 1;", 7);
        faultAt("person 1 1 00;", 11);
        faultAt("person 1 1 000000000000;", 11);
        faultAt(PERSON + "ask 00 0 1 1 0;", 17);
        sentence("the text's length, if it ends too early");
        String item = PERSON + ASK + ASK + HANG;
        for (int length = 1; length < item.length(); length++) {
            String part = item.substring(0, length);
            boolean isWhole = length == 13 || length == 27 || length == 41;
            int word = part.lastIndexOf(';') + 1;
            boolean cutWord = !isWhole && part.indexOf(' ', word) < 0 && !part.endsWith("person") && !part.endsWith("ask")
                    && !part.endsWith("hangs");
            if (isWhole) {
                reads(part, length / 13);
            } else {
                faultAt(part, cutWord ? word : length);
                faultAt(part + "  ", cutWord ? word : length + 2);
            }
        }
        faultAt(" ".repeat(294) + "person", 300);
        faultAt(" ".repeat(288) + "person 1 1 1", 300);
        SleeveSlips shorter = new SleeveSlips();
        enter(shorter, "person 1 1 12;ask");
        shorter.clear();
        enter(shorter, "person 1 1 1");
        due("bytes of an older text are none of it", shorter.town(), -22);
    }

    // ---- days

    private static void daysAndDeeds() {
        sentence("DAY 0 at first, 9 the last; behind it (10) all is over.");
        SleeveSlips x = told("person 2 1 0;ask 0 9 1 5 9;ask 0 9 2 7 9;");
        due("at first", x.now(0), 0);
        passDays(x, 9);
        due("the last", x.now(0), 9);
        promiseAll(x, 0, 1);
        due("the last day goes by", x.day(), 1);
        due("behind it", x.now(0), 10);
        due("no day more", x.day(), STATE);
        due("it stays 10", x.now(0), 10);
        due("kept on the last day", x.now(1), 5);
        due("broken at its end", x.now(2), 7);
        due("promise", x.promise(0), STATE);
        due("letOff", x.letOff(1), STATE);
        due("undo", x.undo(), STATE);
        due("take", x.take(0, 0), 0);
        due("bound", x.bound(0, 1), 0);
        due("great", x.great(1, 10, 0), BAD);
        due("rate with that day", x.rate(5, 0), 12);
        due("an image of that", x.keep(0), 10);
        due("back to it", x.back(0), 10);
        sentence("An ASKING is OPEN (until it is promised), PINNED, KEPT, or GONE.");
        SleeveSlips y = told("person 2 1 0;ask 0 0 1 5 9;ask 0 0 1 5 9;ask 0 3 1 5 9;");
        due("open", y.asking(0, 5), 0);
        y.promise(0);
        due("pinned", y.asking(0, 5), 1);
        y.day();
        due("kept", y.asking(0, 5), 2);
        due("gone", y.asking(1, 5), 3);
        due("open still", y.asking(2, 5), 0);
        sentence("PROMISED, on its DAY alone, by whom it asks, with ROOM");
        due("a day too early", y.promise(2), STATE);
        y.day();
        due("on the eve", y.promise(2), STATE);
        SleeveSlips late = told("person 2 1 0;ask 0 3 1 5 9;");
        passDays(late, 4);
        due("a day too late", late.promise(0), STATE);
        y.day();
        due("on its day", y.promise(2), 1);
        SleeveSlips room = told("person 1 1 0;person 1 1 0;ask 1 0 9 5 9;ask 1 0 9 5 9;");
        due("by whom it asks", room.promise(0), 1);
        due("his sleeve", room.asking(0, 7), 1);
        due("his sleeve is full, another's is empty", room.promise(1), FULL);
        sentence("it is PINNED to his sleeve, a SLIP, behind his others, with LEFT its WORK");
        SleeveSlips row = told("person 3 1 0;person 2 1 0;ask 0 0 9 5 9;ask 0 0 8 5 9;ask 1 0 7 5 9;");
        promiseAll(row, 1, 2);
        due("handed to him", row.hand(2, 0), 2);
        due("behind the handed one, too", row.promise(0), 3);
        due("his last", row.slip(0, 2), 0);
        due("left", row.asking(0, 6), 9);
        letOffBrokenHanded();
    }

    private static void letOffBrokenHanded() {
        sentence("LET OFF: a SLIP is GONE.");
        SleeveSlips x = told("person 3 2 0;person 1 1 0;ask 0 0 9 50 9;ask 0 0 8 60 9;ask 0 0 7 70 9;");
        promiseAll(x, 0, 1, 2);
        x.day();
        due("what is left of it", x.letOff(0), 7);
        due("gone", x.asking(0, 5), 3);
        due("no slip", x.asking(0, 6), 0);
        due("on nobody's sleeve", x.asking(0, 7), NONE);
        due("the next is the first", x.slip(0, 0), 1);
        due("nothing is lost", x.now(2), 0);
        sentence("BROKEN: it is GONE, its WORTH is LOST.");
        due("its worth, not what is left", x.breaks(2), 70);
        due("gone", x.asking(2, 5), 3);
        due("lost", x.now(2), 70);
        due("no slip", x.slip(0, 1), NOT_SO_MANY);
        sentence("HANDED: it comes to another one with ROOM, behind his others, LEFT as it is.");
        SleeveSlips y = told("person 3 2 0;person 2 1 0;ask 0 0 9 50 9;ask 0 0 8 60 9;ask 1 0 7 70 9;ask 0 0 6 9 9;");
        promiseAll(y, 0, 1, 2, 3);
        y.day();
        due("to another one", y.hand(0, 1), 2);
        due("behind his others", y.slip(1, 1), 0);
        due("left as it is", y.asking(0, 6), 7);
        due("whom it asked", y.asking(0, 0), 0);
        due("no room there", y.hand(1, 1), FULL);
        due("to himself", y.hand(1, 0), STATE);
        due("to himself, whose sleeve is full", y.hand(0, 1), STATE);
        due("back, behind his others", y.hand(0, 0), 3);
        due("the last now", y.slip(0, 2), 0);
        due("he works on the first", y.day(), 0);
        due("that is the second asking", y.asking(1, 6), 6);
    }

    private static void undone() {
        sentence("UNDONE: the latest of these four, if it was on this DAY and was not undone yet");
        SleeveSlips x = told("person 3 1 0;person 3 1 0;ask 0 0 3 50 9;ask 0 0 5 60 9;ask 0 1 7 70 9;");
        due("none was", x.undo(), STATE);
        promiseAll(x, 0, 1);
        x.hand(0, 1);
        x.breaks(0);
        x.letOff(1);
        due("the let off one", x.undo(), 4);
        due("is pinned again", x.asking(1, 6), 5);
        due("the broken one", x.undo(), 3);
        due("is not lost", x.now(2), 0);
        due("is where it was", x.asking(0, 7), 1);
        due("the handed one", x.undo(), 2);
        due("is the first of its sleeve again", x.slip(0, 0), 0);
        due("and no more on the other", x.person(1, 3), 0);
        due("a promise", x.undo(), 1);
        due("is open again", x.asking(1, 5), 0);
        due("a new one behind undone ones", x.letOff(0), 3);
        due("undone alone", x.undo(), 1);
        due("the first promise", x.undo(), 0);
        due("no slips", x.now(3), 0);
        due("none again", x.undo(), STATE);
        due("an undone promise can be made anew", x.promise(0), 1);
        x.day();
        due("not of another day", x.undo(), STATE);
        due("none may be", x.now(4), 0);
        due("worked on", x.asking(0, 6), 2);
        promiseAll(x, 2);
        due("of this day", x.undo(), 0);
        due("not what was a day ago", x.undo(), STATE);
        due("the older one stands", x.slip(0, 0), 0);
        SleeveSlips open = told("person 1 1 0;ask 0 0 1 5 9;");
        open.promise(0);
        open.undo();
        due("undone, then not kept", open.day(), 0);
        due("but gone as an open one", open.asking(0, 5), 3);
        undoneTwice();
        sentence("(12 are known, older ones are lost)");
        for (int deeds = 11; deeds <= 15; deeds++) {
            twelveAreKnown(deeds);
        }
    }

    private static void undoneTwice() {
        SleeveSlips x = told("person 5 1 0;person 5 1 0;ask 0 0 3 50 9;ask 0 0 5 60 9;ask 0 0 7 70 9;ask 0 0 8 9 9;");
        promiseAll(x, 0, 1, 2);
        ToLongFunction<SleeveSlips> sleeve = y -> y.slip(0, 0) * 100 + y.slip(0, 1) * 10 + y.slip(0, 2);
        for (int a = 0; a < 3; a++) {
            x.letOff(a);
            x.undo();
            due("let off and undone, each slip is at its place", sleeve.applyAsLong(x), 12);
            x.breaks(a);
            x.undo();
            due("broken and undone, each slip is at its place", sleeve.applyAsLong(x), 12);
            x.hand(a, 1);
            x.undo();
            due("handed and undone, each slip is at its place", sleeve.applyAsLong(x), 12);
        }
        x.breaks(0);
        x.breaks(1);
        due("both are lost", x.now(2), 110);
        due("one is undone", x.undo(), 4);
        due("the other is lost still", x.now(2), 50);
        due("the other is undone", x.undo(), 3);
        due("none is lost", x.now(2), 0);
        for (int i = 0; i < 2; i++) {
            due("promised once more", x.promise(3), 4);
            due("undone once more", x.undo(), 3);
            due("open once more", x.asking(3, 5) + x.asking(3, 6), 0);
            due("on nobody's sleeve", x.asking(3, 7), NONE);
            due("no fourth slip", x.slip(0, 3), NOT_SO_MANY);
        }
    }

    /** One promise and then hands to and fro; so many deeds in all. */
    private static void twelveAreKnown(int deeds) {
        SleeveSlips x = told("person 1 1 0;person 1 1 0;ask 0 0 9 5 9;");
        x.promise(0);
        for (int i = 1; i < deeds; i++) {
            due("hand", x.hand(0, i % 2), 1);
        }
        int known = Math.min(deeds, 12);
        due(deeds + " deeds: known", x.now(4), known);
        for (int i = known - 1; i >= 0; i--) {
            due(deeds + " deeds: undo()", x.undo(), i);
            int done = deeds - known + i;
            due(deeds + " deeds: whose behind " + done, x.asking(0, 7), done == 0 ? NONE : (done - 1) % 2);
        }
        due(deeds + " deeds: no more", x.undo(), STATE);
        due(deeds + " deeds: known again", x.now(4), 0);
    }

    private static void aDayGoesBy() {
        sentence("one behind another of the PEOPLE WORKS so many units, each on the first of his SLIPS that HANGS on none that is not KEPT");
        SleeveSlips x = told("person 4 3 0;person 4 2 0;ask 0 0 1 1 9;ask 0 0 2 2 9;ask 0 0 1 4 9;ask 1 0 2 8 9;hangs 0 1;hangs 2 3;");
        promiseAll(x, 0, 1, 2, 3);
        due("two units, then the one that is free; then the other one works", x.day(), 3);
        due("the third waited for him who works behind", x.asking(2, 6), 1);
        due("won", x.now(1), 11);
        due("free on the next day", x.day(), 1);
        SleeveSlips idle = told("person 1 3 0;ask 0 0 4 1 9;");
        due("no slips, no work", idle.promise(0), 1);
        idle.day();
        due("so many units and no more", idle.asking(0, 6), 1);
        SleeveSlips both = told("person 5 1 0;ask 0 0 1 1 9;ask 0 0 1 1 9;ask 0 0 1 1 9;hangs 0 1;hangs 0 2;");
        promiseAll(both, 0, 1, 2);
        both.day();
        due("the first that is free", both.asking(1, 5), 2);
        due("hangs on two, of which one is kept", both.day() * 10 + both.asking(0, 5), 11);
        due("both kept", both.day() * 10 + both.asking(0, 5), 12);
        SleeveSlips ring = told("person 5 3 0;ask 0 0 1 1 9;ask 0 0 1 1 9;ask 0 0 9 1 9;hangs 0 1;hangs 1 0;");
        promiseAll(ring, 0, 1, 2);
        passDays(ring, 2);
        due("a ring is stepped over", ring.asking(2, 6), 3);
        SleeveSlips handed = told("person 2 1 0;person 2 1 0;ask 0 0 2 1 9;");
        promiseAll(handed, 0);
        handed.hand(0, 1);
        handed.day();
        due("who has it works on it, once a day", handed.asking(0, 6), 1);
        sentence("as LEFT comes to 0 it is KEPT at once (its WORTH is WON; it is no SLIP any more)");
        SleeveSlips y = told("person 1 1 0;ask 0 0 1 99 9;ask 0 1 1 5 9;");
        promiseAll(y, 0);
        due("kept", y.day(), 1);
        due("won", y.now(1), 99);
        due("no slip", y.now(3), 0);
        due("no left", y.asking(0, 6), 0);
        due("its place is free", y.promise(1), 1);
        theEndOfADay();
    }

    private static void theEndOfADay() {
        sentence("Then each SLIP of which this DAY is DUE is BROKEN");
        SleeveSlips x = told("person 4 1 0;person 1 1 0;ask 0 0 2 10 1;ask 0 0 1 20 1;ask 0 0 9 40 1;ask 0 0 9 80 2;ask 0 0 9 3 9;");
        promiseAll(x, 0, 1, 2, 3);
        x.hand(2, 1);
        x.day();
        due("none is due yet", x.now(2), 0);
        due("done on the day that it is due", x.day(), 1);
        due("won", x.now(1), 10);
        due("the others that were due, on every sleeve", x.now(2), 60);
        due("gone", x.asking(1, 5) * 10 + x.asking(2, 5), 33);
        due("the one that is due tomorrow stays", x.slip(0, 0), 3);
        x.day();
        due("broken as well", x.now(2), 140);
        due("no slips", x.now(3), 0);
        SleeveSlips waits = told("person 4 3 0;ask 0 0 1 10 0;ask 0 0 1 20 9;hangs 0 1;");
        promiseAll(waits, 0, 1);
        due("both are done ahead of the day's end", waits.day(), 2);
        due("nothing is lost", waits.now(2), 0);
        sentence("then each OPEN ASKING of this DAY is GONE; it is the next DAY");
        SleeveSlips y = told("person 4 1 0;ask 0 0 2 10 1;ask 0 1 1 20 1;");
        y.day();
        due("of this day", y.asking(0, 5), 3);
        due("of the next day", y.asking(1, 5), 0);
        due("nothing is lost by it", y.now(2), 0);
        due("the next day", y.now(0), 1);
    }

    // ---- what to take

    private static void nothingIsChanged() {
        sentence("(Nothing is changed.)");
        changesNothing("take(0, 0)", x -> x.take(0, 0), 99);
        changesNothing("take(0, 1)", x -> x.take(0, 1), 8 + 16);
        changesNothing("bound(0, 0)", x -> x.bound(0, 0), 99);
        changesNothing("bound(1, 1)", x -> x.bound(1, 1), 66);
        changesNothing("expected(0, 1, 0)", x -> x.expected(0, 1, 0), 44);
        changesNothing("expected(0, 1, 1)", x -> x.expected(0, 1, 1), 5);
        changesNothing("wise(0, 1, 1)", x -> x.wise(0, 1, 1), 1);
        changesNothing("ring()", x -> x.ring(), 0);
        changesNothing("order(5)", x -> x.order(5), 5);
        changesNothing("fewest(1)", x -> x.fewest(1), 0);
        changesNothing("great(1, 9, 0)", x -> x.great(1, 9, 0), 4);
        changesNothing("great(99, 9, 1)", x -> x.great(99, 9, 1), NONE);
    }

    private static void take() {
        sentence("TAKE for one of the PEOPLE, with an empty sleeve, from this DAY on");
        SleeveSlips x = told("person 1 1 0;ask 0 0 9 50 9;ask 0 1 1 7 1;ask 0 1 1 6 2;");
        promiseAll(x, 0);
        due("from day 0, one place", x.take(0, 1), 1);
        x.day();
        due("his sleeve is full", x.promise(1), FULL);
        due("as if it were empty", x.take(0, 1), 2);
        sentence("a set of his ASKINGS of this DAY or later (whatever became of them; HANGS are of no matter)");
        SleeveSlips y = told("person 5 3 0;person 5 3 0;ask 0 0 1 1 9;ask 0 1 1 2 9;ask 0 2 1 4 9;ask 1 1 1 9 9;hangs 1 0;hangs 2 1;hangs 1 2;");
        due("all of his", y.take(0, 1), 7);
        promiseAll(y, 0);
        y.letOff(0);
        due("a gone one of this day, too", y.take(0, 1), 7);
        y.day();
        due("not of a day ago", y.take(0, 1), 6);
        due("not of another one", y.take(1, 1), 8);
        promiseAll(y, 1);
        y.hand(1, 1);
        due("his, though it is on another's sleeve", y.take(0, 1), 6);
        due("not the other's", y.take(1, 1), 8);
        y.breaks(1);
        due("a broken one", y.take(0, 0), 6);
        sentence("WORKS each unit on the one with the least DUE (of several the least number)");
        // The later one is due sooner: worked on at once, though the first was begun.
        due("the least due first", told("person 2 1 0;ask 0 0 3 5 9;ask 0 1 1 5 1;").take(0, 1), 3);
        // Two are due alike; the third needs the place of one of them on day 1.
        due("the short one has the least number", told("person 2 1 0;ask 0 0 1 5 4;ask 0 0 3 5 4;ask 0 1 1 9 9;").take(0, 1), 7);
        due("the long one has the least number", told("person 2 1 0;ask 0 0 3 5 4;ask 0 0 1 5 4;ask 0 1 1 9 9;").take(0, 1), 5);
        takeOfRoomAndDue();
    }

    private static void takeOfRoomAndDue() {
        sentence("never has more SLIPS than ROOM");
        for (int room = 1; room <= 5; room++) {
            SleeveSlips x = told("person " + room + " 1 0;" + "ask 0 0 1 1 9;".repeat(6));
            due("as many as there is room, " + room, x.take(0, 1), (1 << room) - 1);
        }
        sentence("has each done by the end of DUE");
        due("to the unit", told("person 5 1 0;ask 0 0 9 5 8;ask 0 0 1 4 9;").take(0, 1), 3);
        due("a day too short", told("person 5 1 0;ask 0 0 9 5 7;ask 0 0 1 4 9;").take(0, 1), 2);
        due("three units on one day", told("person 5 3 0;ask 0 9 3 5 9;").take(0, 0), 5);
        due("four units on one day", told("person 5 3 0;ask 0 9 4 5 9;").take(0, 0), 0);
        sentence("(SLIPS that are done go at once; those of a DAY are promised ahead of its WORK)");
        due("done on day 0, place on day 1", told("person 1 1 0;ask 0 0 1 5 9;ask 0 1 1 5 9;").take(0, 1), 3);
        due("done a day later, no place", told("person 1 1 0;ask 0 0 2 5 9;ask 0 1 1 4 9;").take(0, 1), 1);
        due("of one day, though the first is done at once", told("person 1 3 0;ask 0 0 1 5 0;ask 0 0 1 4 0;").take(0, 1), 1);
        due("both of them go on one day", told("person 2 2 0;ask 0 0 1 5 0;ask 0 0 1 4 0;ask 0 1 1 3 1;ask 0 1 1 2 1;").take(0, 1), 15);
        sentence("The set with the most WORTH, of several the least bits.");
        due("one against two", told("person 1 1 0;ask 0 0 9 5 8;ask 0 0 1 2 0;ask 0 1 1 3 1;").take(0, 1), 1);
        due("two against one", told("person 1 1 0;ask 0 0 1 2 0;ask 0 1 1 3 1;ask 0 0 9 5 8;").take(0, 1), 3);
        due("of alike ones the first", told("person 1 1 0;" + "ask 0 0 1 9 0;".repeat(8)).take(0, 1), 1);
        due("none can be kept", told("person 1 1 0;ask 0 9 2 9 9;").take(0, 1), 0);
        due("no askings", told("person 1 1 0;").take(0, 1), 0);
        SleeveSlips other = told("person 1 1 0;person 1 1 0;ask 0 0 1 9 9;");
        due("one's set", other.take(0, 1), 1);
        due("another's, who is not asked", other.take(1, 1), 0);
        due("all eight", told("person 5 3 0;" + "ask 0 0 1 99 0;".repeat(3) + "ask 0 1 1 99 9;".repeat(5)).take(0, 1), 255);
        due("all eight: worth", told("person 5 3 0;" + "ask 0 0 1 99 0;".repeat(3) + "ask 0 1 1 99 9;".repeat(5)).take(0, 0), 792);
    }

    private static void bounds() {
        sentence("BOUNDS: that WORTH, if he had ROOM for all (0)");
        SleeveSlips x = told("person 1 2 0;" + "ask 0 0 1 9 3;".repeat(8));
        due("room for one", x.take(0, 0), 9);
        due("room for eight", x.bound(0, 0), 72);
        due("two units a day still", told("person 1 2 0;" + "ask 0 0 1 9 1;".repeat(8)).bound(0, 0), 36);
        sentence("if he had 99 units of WORK a day (1)");
        SleeveSlips y = told("person 5 1 0;" + "ask 0 0 9 9 0;".repeat(5) + "ask 0 1 9 9 1;".repeat(3));
        due("one unit", y.take(0, 0), 0);
        due("units for all", y.bound(0, 1), 72);
        due("room for one still", told("person 1 1 0;" + "ask 0 0 9 9 0;".repeat(8)).bound(0, 1), 9);
        SleeveSlips none = told("person 1 1 0;");
        due("no askings (0)", none.bound(0, 0), 0);
        due("no askings (1)", none.bound(0, 1), 0);
        SleeveSlips later = told("person 1 1 0;ask 0 0 1 9 9;ask 0 4 1 7 9;");
        passDays(later, 4);
        due("from this day on (0)", later.bound(0, 0), 7);
        due("from this day on (1)", later.bound(0, 1), 7);
        passDays(later, 1);
        due("none any more (0)", later.bound(0, 0), 0);
    }

    private static void sorts() {
        sentence("SORTS 0 .. 2 of ASKINGS come by chance: each DAY one at most");
        SleeveSlips x = told("person 5 1 0;");
        due("sort(2)", x.sort(2, 1, 1, 1), 1);
        due("sort(3)", x.sort(3, 1, 1, 1), BAD);
        due("sort(-1)", x.sort(-1, 1, 1, 1), BAD);
        x.sort(0, 5, 10, 1);
        x.sort(1, 4, 10, 1);
        due("one a day, whatever the room: upper", x.expected(0, 1, 0), 91);
        due("one a day, whatever the room: lower", x.expected(0, 1, 1), 10);
        sentence("of SORT j by so many in 10 (all together 10 at most; 0 at first)");
        SleeveSlips y = told("person 5 1 0;");
        due("at first", y.count(3), 0);
        due("expected at first", y.expected(0, 6, 0), 0);
        due("ten", y.sort(1, 10, 1, 1), 10);
        due("eleven", y.sort(1, 11, 1, 1), BAD);
        due("one more of another", y.sort(0, 1, 1, 1), BAD);
        due("none of another", y.sort(0, 0, 1, 1), 10);
        due("less of it", y.sort(1, 3, 1, 1), 3);
        due("none of it", y.sort(1, 0, 1, 1), 0);
        due("below none", y.sort(1, -1, 1, 1), BAD);
        due("all three", y.sort(0, 3, 1, 1) + y.sort(1, 3, 1, 1) + y.sort(2, 4, 1, 1), 3 + 6 + 10);
        due("one less and one more", y.sort(0, 2, 1, 1) + y.sort(2, 5, 1, 1), 9 + 10);
        sentence("with a WORTH (1 .. 99), that needs a place on a sleeve for so many DAYS (1 .. 3, that one counted)");
        SleeveSlips z = told("person 1 1 0;");
        due("worth 1", z.sort(0, 10, 1, 1), 10);
        due("worth 99", z.sort(0, 10, 99, 1), 10);
        due("worth 0", z.sort(0, 10, 0, 1), BAD);
        due("worth 100", z.sort(0, 10, 100, 1), BAD);
        due("days 0", z.sort(0, 10, 99, 0), BAD);
        due("days 4", z.sort(0, 10, 99, 4), BAD);
        for (int days = 1; days <= 3; days++) {
            due("days " + days, z.sort(0, 10, 99, days), 10);
            due("a place for " + days + " of six days", z.expected(0, 6, 0), 99 * 6 / days);
        }
    }

    private static void expected() {
        sentence("EXPECTED of one of the PEOPLE in n (0 .. 6) DAYS, his sleeve empty at first");
        SleeveSlips x = told("person 1 1 0;person 2 1 0;ask 0 0 9 9 9;");
        x.sort(0, 10, 7, 1);
        promiseAll(x, 0);
        for (int n = 0; n <= 6; n++) {
            due("in " + n + " days, though his sleeve is full", x.expected(0, n, 0), 7 * n);
            due("lower in " + n + " days", x.expected(0, n, 1), 1);
        }
        due("in 7 days", x.expected(0, 7, 0), BAD);
        due("in -1 days", x.expected(0, -1, 0), BAD);
        sentence("the most WORTH in the mean of what he takes (also what ends behind the n DAYS): a fraction");
        x.sort(0, 10, 7, 3);
        due("ends behind the first day", x.expected(0, 1, 0), 7);
        due("a second one ends behind the fourth", x.expected(0, 4, 0), 14);
        due("two places, two days", x.expected(1, 2, 0), 14);
        due("two places, three days", x.expected(1, 3, 0), 14);
        x.sort(0, 1, 1, 1);
        due("a tenth: upper", x.expected(0, 1, 0), 1);
        due("a tenth: lower", x.expected(0, 1, 1), 10);
        due("six tenths in least terms: upper", x.expected(0, 6, 0), 3);
        due("six tenths in least terms: lower", x.expected(0, 6, 1), 5);
        x.sort(0, 5, 1, 1);
        due("five halves: upper", x.expected(0, 5, 0), 5);
        due("five halves: lower", x.expected(0, 5, 1), 2);
        x.sort(0, 0, 1, 1);
        due("none comes: upper", x.expected(0, 6, 0), 0);
        due("none comes: lower", x.expected(0, 6, 1), 1);
        // By three in ten a 1 for two days: in two days 0.3 + 0.7 * 0.3 = 51 / 100.
        x.sort(0, 3, 1, 2);
        due("hundredths: upper", x.expected(0, 2, 0), 51);
        due("hundredths: lower", x.expected(0, 2, 1), 100);
        // In six days as e(n) = 0.3 (1 + e(n - 2)) + 0.7 e(n - 1): 0.3, 0.51, 0.747, 0.9759, 1.20723, 1.437831.
        due("millionths: upper", x.expected(0, 6, 0), 1437831);
        due("millionths: lower", x.expected(0, 6, 1), 1000000);
    }

    private static void wise() {
        sentence("WISE: whether to take SORT j on the first of n (1 .. 6) DAYS, with f (1 .. 5) places free");
        SleeveSlips x = new SleeveSlips();
        x.sort(0, 9, 50, 1);
        x.sort(1, 1, 1, 3);
        due("the one day", x.wise(1, 1, 1), 1);
        for (int n = 2; n <= 6; n++) {
            due("one place for " + n + " days", x.wise(1, n, 1), 0);
            due("two places for " + n + " days", x.wise(1, n, 2), 1);
            due("five places for " + n + " days", x.wise(1, n, 5), 1);
        }
        due("n 0", x.wise(1, 0, 1), BAD);
        due("n 7", x.wise(1, 7, 1), BAD);
        due("f 0", x.wise(1, 1, 0), BAD);
        due("f 6", x.wise(1, 1, 6), BAD);
        sentence("none of the others free in these DAYS");
        // Two small ones of three days would fill both places; then a great one is lost.
        SleeveSlips y = told("person 5 1 0;");
        y.sort(0, 10, 50, 2);
        y.sort(1, 0, 1, 3);
        due("nobody's room counts, f alone: one", y.wise(1, 3, 1), 0);
        due("nobody's room counts, f alone: two", y.wise(1, 3, 2), 0);
        due("nobody's room counts, f alone: three", y.wise(1, 3, 3), 1);
        sentence("1, if that brings no less in the mean");
        SleeveSlips z = new SleeveSlips();
        z.sort(0, 10, 10, 1);
        z.sort(1, 0, 20, 3);
        due("as much", z.wise(1, 3, 1), 1);
        z.sort(1, 0, 19, 3);
        due("one less", z.wise(1, 3, 1), 0);
        z.sort(1, 0, 21, 3);
        due("one more", z.wise(1, 3, 1), 1);
        z.sort(0, 1, 10, 1);
        z.sort(1, 0, 1, 2);
        due("as much in the mean, a tenth of 10", z.wise(1, 2, 1), 1);
        z.sort(0, 1, 11, 1);
        due("less in the mean by a tenth", z.wise(1, 2, 1), 0);
    }

    // ---- rings, parts

    private static void rings() {
        String eight = "person 5 1 0;" + "ask 0 0 1 1 9;".repeat(8);
        String circle = "hangs 0 1;hangs 1 2;hangs 2 3;hangs 3 4;hangs 4 5;hangs 5 6;hangs 6 7;hangs 7 0;";
        sentence("RING: whether some ASKINGS can never be KEPT by HANGS alone.");
        due("nobody", new SleeveSlips().ring(), 0);
        due("no hangs", told(eight).ring(), 0);
        due("all in a row", told(eight + circle.substring(0, 70)).ring(), 0);
        due("all in a ring", told(eight + circle).ring(), 1);
        due("two of them", told(eight + "hangs 7 6;hangs 6 7;").ring(), 1);
        due("one over many ways", told(eight + "hangs 3 1;hangs 3 2;hangs 1 0;hangs 2 0;").ring(), 0);
        SleeveSlips kept = told("person 5 1 0;ask 0 0 1 1 9;ask 0 0 1 1 9;hangs 0 1;hangs 1 0;");
        promiseAll(kept, 0, 1);
        kept.letOff(1);
        due("whatever becomes of them", kept.ring(), 1);
        sentence("ORDER: all ASKINGS, each behind those on which it HANGS, the first by numbers; NONE: there is a RING.");
        due("no askings", new SleeveSlips().order(0), NOT_SO_MANY);
        SleeveSlips row = told(eight + circle.substring(0, 70));
        for (int i = 0; i < 8; i++) {
            due("turned round, " + i, row.order(i), 7 - i);
            due("as told, " + i, told(eight).order(i), i);
        }
        due("not so many", row.order(8), NOT_SO_MANY);
        SleeveSlips x = told(eight + "hangs 0 7;hangs 1 0;hangs 2 1;");
        int[] first = {3, 4, 5, 6, 7, 0, 1, 2};
        for (int i = 0; i < 8; i++) {
            due("the first by numbers, " + i, x.order(i), first[i]);
        }
        due("a ring", told(eight + circle).order(0), NONE);
        due("a ring, and one ahead of it", told(eight + "hangs 1 2;hangs 2 1;").order(0), NONE);
        due("a ring, below 0", told(eight + circle).order(-1), BAD);
        sentence("FEWEST: the fewest ASKINGS without which there is none, of several sets the least bits.");
        due("no askings", new SleeveSlips().fewest(0), 0);
        due("no ring: the set", told(eight).fewest(1), 0);
        due("a ring of all: how many", told(eight + circle).fewest(0), 1);
        due("a ring of all: the set", told(eight + circle).fewest(1), 1);
        String pairs = "hangs 0 7;hangs 7 0;hangs 1 6;hangs 6 1;hangs 2 5;hangs 5 2;hangs 3 4;hangs 4 3;";
        due("four pairs: how many", told(eight + pairs).fewest(0), 4);
        due("four pairs: the set", told(eight + pairs).fewest(1), 15);
        due("the last is in both", told(eight + "hangs 0 7;hangs 7 0;hangs 1 7;hangs 7 1;").fewest(1), 128);
        due("only two askings", told("person 5 1 0;ask 0 0 1 1 9;ask 0 0 1 1 9;hangs 0 1;hangs 1 0;").fewest(1), 1);
    }

    private static void great() {
        sentence("GREAT: so many units (1 .. 99) from this DAY to the end of a DAY, made of parts");
        SleeveSlips x = told("person 1 3 1;".repeat(4));
        due("one", x.great(1, 0, 0), 1);
        due("the most", x.great(99, 9, 0), 99);
        due("none", x.great(0, 9, 0), BAD);
        due("one too many", x.great(100, 9, 0), BAD);
        due("all of one day", x.great(12, 0, 0), 12);
        due("one more than that", x.great(13, 0, 0), NONE);
        due("on two days", x.great(24, 1, 0), 24);
        passDays(x, 9);
        due("the last day alone", x.great(12, 9, 0), 12);
        due("the last day alone, one more", x.great(13, 9, 0), NONE);
        due("nobody is there", new SleeveSlips().great(1, 9, 0), NONE);
        sentence("each of the PEOPLE with ROOM may take as many as WORK a day times these DAYS less LEFT of all his SLIPS (0 at least), at his PRICE each");
        SleeveSlips y = told("person 2 1 1;person 5 1 9;ask 0 0 4 1 9;ask 0 0 5 1 9;ask 1 0 9 1 9;ask 1 0 9 1 9;");
        due("no slips", y.great(10, 9, 0), 10);
        promiseAll(y, 0);
        due("less his left", y.great(6, 9, 0), 6);
        due("the seventh is another's", y.great(7, 9, 0), 15);
        due("nothing but left", y.great(1, 3, 1), 2);
        due("a unit behind it", y.great(1, 4, 1), 1);
        promiseAll(y, 1);
        due("no room", y.great(1, 9, 1), 2);
        promiseAll(y, 2, 3);
        due("room, but less than none", y.great(1, 9, 1), NONE);
        y.letOff(1);
        due("less than none of one takes nothing of another's", y.great(6, 9, 0), 6);
        due("and he gives none", y.great(7, 9, 0), NONE);
        sentence("the least that all costs; who (bits) takes some, the cheapest first, of several the least number; NONE.");
        SleeveSlips z = told("person 1 1 5;person 1 1 2;person 1 1 5;person 1 1 0;");
        int[] who = {8, 10, 11, 15};
        int[] cost = {0, 2, 7, 12};
        for (int units = 1; units <= 4; units++) {
            due("who takes " + units, z.great(units, 0, 1), who[units - 1]);
            due("what " + units + " cost", z.great(units, 0, 0), cost[units - 1]);
        }
        due("too many: cost", z.great(5, 0, 0), NONE);
        due("too many: who", z.great(5, 0, 1), NONE);
    }

    // ---- kinds, images

    private static void kinds() {
        sentence("RATE of one as if of a KIND");
        SleeveSlips x = told("person 1 1 0;person 5 3 0;person 2 2 0;ask 2 0 9 1 9;ask 2 0 9 1 9;");
        promiseAll(x, 0, 1);
        passDays(x, 3);
        sentence("PERSON its ROOM less its SLIPS (1).");
        rates(x, 0, 2, 0, 1);
        rates(x, 0, 1, 5, 1);
        sentence("FIRST up, and WORK a day (10).");
        rates(x, 1, 2, 2, 11);
        rates(x, 1, 1, 8, 11);
        sentence("SHORT up less LEFT of all its SLIPS (100).");
        rates(x, 2, 2, -12, 101);
        rates(x, 2, 1, 5, 101);
        sentence("BEST twice up (1000).");
        rates(x, 3, 2, 4, 1011);
        rates(x, 3, 1, 16, 1011);
        sentence("MILLER up, and its number (10000).");
        rates(x, 4, 2, -10, 10101);
        rates(x, 4, 0, 1, 10101);
        sentence("TAILOR up, and the DAY (100000).");
        rates(x, 5, 2, 3, 100001);
        rates(x, 5, 0, 4, 100001);
        passDays(x, 7);
        rates(x, 5, 0, 11, 100001);
        sentence("THE TRACE, 0 at first, as often as rate() asks that body: each once");
        due("at first", new SleeveSlips().trace(), 0);
        SleeveSlips y = told("person 1 1 0;");
        for (int i = 1; i <= 400; i++) {
            y.rate(5, 0);
        }
        due("four hundred times", y.trace(), 400L * 100001);
        sentence("What none is, where a number may be below 0.");
        due("no such kind", y.rate(6, 0), NO);
        due("no such one", y.rate(0, 1), NO);
        due("the trace stays", y.trace(), 400L * 100001);
        due("that number", SleeveSlips.NO, NO);
    }

    private static void rates(SleeveSlips x, int kind, int p, int want, long added) {
        long ahead = x.trace();
        due("rate(" + kind + ", " + p + ")", x.rate(kind, p), want);
        due("the trace behind rate(" + kind + ", " + p + ")", x.trace() - ahead, added);
    }

    private static void images() {
        sentence("IMAGES 0, 1 keep NOW (DAY, what became of ASKINGS, SLIPS, LEFT, WON, LOST, what may be UNDONE); nothing else.");
        SleeveSlips x = busy();
        SleeveSlips twin = busy();
        due("keep(0)", x.keep(0), 1);
        x.undo();
        x.breaks(3);
        x.hand(2, 0);
        passDays(x, 9);
        due("all is over", x.now(0), 10);
        due("back(0)", x.back(0), 1);
        due("as it was", seen(x).equals(seen(twin)) ? 1 : 0, 1);
        SleeveSlips y = busy();
        y.keep(0);
        y.sort(1, 1, 1, 1);
        y.rate(0, 0);
        y.clear();
        y.back(0);
        due("sorts are none of it", y.count(3), 8);
        due("the trace is none of it", y.trace(), 10102);
        due("the text is none of it", y.count(4), 0);
        due("the other image is none of it", y.back(1), 1);
        due("what may be undone then", y.now(4), 0);
        due("back to the first again", y.back(0), 1);
        due("what may be undone there", y.now(4), 3);
        due("undone", y.undo(), 2);
        due("by that", y.asking(4, 5), 1);
        due("the image has it still", y.back(0) + y.asking(4, 5), 4);
        y.keep(1);
        y.day();
        due("one image of the other", y.back(1), 1);
        fullImage();
        sentence("(Read anew: as told, IMAGES are gone; SORTS stay.)");
        y.clear();
        enter(y, "person 5 3 9;ask 0 0 9 9 9;");
        due("read anew", y.town(), 2);
        due("image 0", y.back(0), STATE);
        due("image 1", y.back(1), STATE);
        due("sorts", y.count(3), 8);
        due("a sort that was told", y.wise(1, 1, 1), 1);
        for (int what = 0; what < 5; what++) {
            due("now(" + what + ")", y.now(what), 0);
        }
        due("open", y.asking(0, 5), 0);
        due("no hangs", y.count(2), 0);
        due("nothing to undo", y.undo(), STATE);
        due("an image kept anew", y.keep(1) + y.back(1), 0);
        due("the other not", y.back(0), STATE);
        due("nothing is told", y.town(), 0);
        due("nobody", y.count(0) + y.count(1), 0);
        due("that image is gone, too", y.back(1), STATE);
        readAnewInTheMidst();
        readAnewWithoutHangs();
    }

    /** Four sleeves with eight slips, and twelve deeds that may be undone. */
    private static SleeveSlips manySlips() {
        SleeveSlips x = told(PERSON.repeat(2) + "person 5 1 1;person 5 1 1;" + "ask 3 0 9 9 9;".repeat(4) + "ask 2 0 8 7 9;".repeat(4));
        promiseAll(x, 7, 6, 5, 4, 3, 2, 1, 0);
        x.hand(0, 0);
        x.hand(3, 1);
        x.hand(7, 3);
        x.breaks(5);
        return x;
    }

    private static void fullImage() {
        sentence("SLIPS, LEFT, WON, LOST, what may be UNDONE");
        SleeveSlips x = manySlips();
        SleeveSlips twin = manySlips();
        x.keep(0);
        for (int i = 0; i < 12; i++) {
            due("all are undone", x.undo(), 11 - i);
        }
        promiseAll(x, 0, 1, 2, 3, 4);
        passDays(x, 3);
        due("back to it", x.back(0), 0);
        due("every slip is where it was", seen(x).equals(seen(twin)) ? 1 : 0, 1);
        for (int i = 0; i < 12; i++) {
            due("every deed is undone", x.undo(), twin.undo());
            for (int p = 0; p < 4; p++) {
                due("slips then", x.slip(p, 0) * 100 + x.slip(p, 1) * 10 + x.slip(p, 2), twin.slip(p, 0) * 100 + twin.slip(p, 1) * 10 + twin.slip(p, 2));
            }
            due("slips in all", x.now(3), twin.now(3));
        }
        due("none is left", x.now(3), 0);
    }

    private static void readAnewInTheMidst() {
        sentence("(Read anew: as told, IMAGES are gone; SORTS stay.)");
        SleeveSlips x = told("person 2 1 1;person 2 1 1;ask 0 0 9 9 9;ask 0 0 1 7 9;");
        promiseAll(x, 0, 1);
        x.hand(0, 1);
        x.breaks(1);
        enter(x, "person 2 1 1;person 2 1 1;ask 0 0 9 9 9;ask 0 0 1 7 9;");
        due("the same again", x.town(), 4);
        due("nothing is lost", x.now(2), 0);
        for (int a = 0; a < 2; a++) {
            due("open", x.asking(a, 5), 0);
            due("no left", x.asking(a, 6), 0);
            due("on nobody's sleeve", x.asking(a, 7), NONE);
            due("promised anew", x.promise(a), 1);
            due("undone", x.undo(), 0);
            due("open again", x.asking(a, 5), 0);
            due("on nobody's sleeve again", x.asking(a, 7), NONE);
        }
        due("no slips", x.now(3), 0);
    }

    /** Hangs of the texts ahead, of the latest as of the one ahead of it, are no more. */
    private static void readAnewWithoutHangs() {
        SleeveSlips x = new SleeveSlips();
        for (int i = 0; i < 4; i++) {
            enter(x, PERSON + ASK + ASK + HANG.repeat(8));
            due("with hangs", x.town(), 11);
            due("eight of them", x.count(2), 8);
            due("their order", x.order(0), 1);
            if (i % 2 == 1) {
                enter(x, PERSON + ASK + ASK);
                due("without hangs", x.town(), 3);
                due("none of them", x.count(2), 0);
                due("no order by them", x.order(0), 0);
            }
        }
        enter(x, "person 1 1 1;");
        due("without askings", x.town(), 1);
        due("none of them", x.count(1), 0);
        due("one of the people", x.count(0), 1);
    }

    // ---- refused calls

    private static void refused() {
        sentence("Refused, and nothing changes, the first of these: BAD (a number is not as told, or there is no such thing), STATE (as told), FULL.");
        Consumer<SleeveSlips> fillText = x -> enter(x, " ".repeat(292));
        changesNothing("type: FULL", fillText, x -> x.type(32, 1), FULL);
        changesNothing("type: BAD ahead of FULL", fillText, x -> x.type(32, 0), BAD);
        changesNothing("type: BAD ahead of FULL, too many", fillText, x -> x.type(32, 9), BAD);
        changesNothing("type: FULL of a part", x -> enter(x, " ".repeat(288)), x -> x.type(32, 5), FULL);
        changesNothing("town: FAULT", x -> x.town(), -18);
        changesNothing("promise: no such one", x -> x.promise(6), BAD);
        changesNothing("promise: pinned", x -> x.promise(1), STATE);
        changesNothing("promise: gone", x -> x.promise(4), STATE);
        changesNothing("promise: kept", x -> x.promise(0), STATE);
        changesNothing("promise: not its day", x -> x.promise(5), STATE);
        Consumer<SleeveSlips> fillSleeve = x -> x.undo();
        changesNothing("promise: STATE ahead of FULL", fillSleeve, x -> x.promise(1), STATE);
        changesNothing("letOff: no such one", x -> x.letOff(6), BAD);
        changesNothing("letOff: gone", x -> x.letOff(4), STATE);
        changesNothing("letOff: kept", x -> x.letOff(0), STATE);
        changesNothing("letOff: open", x -> x.letOff(5), STATE);
        changesNothing("breaks: no such one", x -> x.breaks(-1), BAD);
        changesNothing("breaks: gone", x -> x.breaks(4), STATE);
        changesNothing("breaks: kept", x -> x.breaks(0), STATE);
        changesNothing("breaks: open", x -> x.breaks(5), STATE);
        changesNothing("hand: no such one", x -> x.hand(6, 1), BAD);
        changesNothing("hand: to no such one", x -> x.hand(1, 2), BAD);
        changesNothing("hand: BAD ahead of STATE", x -> x.hand(4, 2), BAD);
        changesNothing("hand: gone", x -> x.hand(4, 0), STATE);
        changesNothing("hand: kept", x -> x.hand(0, 0), STATE);
        changesNothing("hand: open", x -> x.hand(5, 0), STATE);
        changesNothing("hand: is there", x -> x.hand(1, 0), STATE);
        changesNothing("hand: STATE ahead of FULL, is there", x -> x.hand(2, 1), STATE);
        changesNothing("hand: STATE ahead of FULL, gone", x -> x.hand(4, 1), STATE);
        changesNothing("hand: FULL", x -> x.hand(1, 1), FULL);
        changesNothing("undo: none", x -> x.day(), x -> x.undo(), STATE);
        changesNothing("day: all is over", x -> passDays(x, 9), x -> x.day(), STATE);
        changesNothing("back: none was kept", x -> x.back(0), STATE);
        changesNothing("sort: too many together", x -> x.sort(1, 4, 9, 2), BAD);
        changesNothing("sort: too many, told anew", x -> x.sort(0, 7, 9, 2), BAD);
        changesNothing("wise: not told", x -> x.wise(1, 1, 1), BAD);
        SleeveSlips full = told("person 1 1 1;ask 0 0 9 5 9;ask 0 0 1 5 9;");
        promiseAll(full, 0);
        due("promise: FULL", full.promise(1), FULL);
        due("and open still", full.asking(1, 5) + full.asking(1, 6), 0);
        due("and no deed", full.now(4), 1);
    }

    /** The numbers just beyond what may be, and those where arithmetic would wrap around. */
    private static int[] beyond(int low, int high) {
        return new int[] {low - 1, high + 1, LOW, HIGH, LOW + 1, low - 256, high + 256, -65536, 65536, 1 << 30};
    }

    private static void numbersThatAreNotAsTold() {
        sentence("BAD (a number is not as told, or there is no such thing)");
        for (int n : beyond(1, 8)) {
            changesNothing("type(65, " + n + ")", x -> x.type(65, n), BAD);
        }
        for (int p : beyond(0, 1)) {
            changesNothing("person(" + p + ", 0)", x -> x.person(p, 0), BAD);
            changesNothing("slip(" + p + ", 0)", x -> x.slip(p, 0), BAD);
            changesNothing("hand(1, " + p + ")", x -> x.hand(1, p), BAD);
            changesNothing("take(" + p + ", 0)", x -> x.take(p, 0), BAD);
            changesNothing("bound(" + p + ", 0)", x -> x.bound(p, 0), BAD);
            changesNothing("expected(" + p + ", 1, 0)", x -> x.expected(p, 1, 0), BAD);
            changesNothing("rate(0, " + p + ")", x -> x.rate(0, p), NO);
            changesNothing("take(0, " + p + ")", x -> x.take(0, p), BAD);
            changesNothing("bound(0, " + p + ")", x -> x.bound(0, p), BAD);
            changesNothing("expected(0, 1, " + p + ")", x -> x.expected(0, 1, p), BAD);
            changesNothing("fewest(" + p + ")", x -> x.fewest(p), BAD);
            changesNothing("great(1, 9, " + p + ")", x -> x.great(1, 9, p), BAD);
            changesNothing("keep(" + p + ")", x -> x.keep(p), BAD);
            changesNothing("back(" + p + ")", x -> x.back(p), BAD);
        }
        for (int a : beyond(0, 5)) {
            changesNothing("asking(" + a + ", 0)", x -> x.asking(a, 0), BAD);
            changesNothing("promise(" + a + ")", x -> x.promise(a), BAD);
            changesNothing("letOff(" + a + ")", x -> x.letOff(a), BAD);
            changesNothing("breaks(" + a + ")", x -> x.breaks(a), BAD);
            changesNothing("hand(" + a + ", 1)", x -> x.hand(a, 1), BAD);
            changesNothing("rate(" + a + ", 0)", x -> x.rate(a, 0), NO);
        }
        for (int what : beyond(0, 3)) {
            changesNothing("person(0, " + what + ")", x -> x.person(0, what), BAD);
        }
        for (int what : beyond(0, 7)) {
            changesNothing("asking(0, " + what + ")", x -> x.asking(0, what), BAD);
        }
        for (int what : beyond(0, 4)) {
            changesNothing("now(" + what + ")", x -> x.now(what), BAD);
            changesNothing("count(" + what + ")", x -> x.count(what), BAD);
        }
        moreNumbers();
    }

    private static void moreNumbers() {
        for (int i : new int[] {-1, -256, LOW, LOW + 1}) {
            changesNothing("slip(0, " + i + ")", x -> x.slip(0, i), BAD);
            changesNothing("order(" + i + ")", x -> x.order(i), BAD);
        }
        for (int i : new int[] {6, 256, 65536, HIGH}) {
            changesNothing("slip(0, " + i + ")", x -> x.slip(0, i), NOT_SO_MANY);
            changesNothing("order(" + i + ")", x -> x.order(i), NOT_SO_MANY);
        }
        for (int n : beyond(0, 6)) {
            changesNothing("expected(0, " + n + ", 0)", x -> x.expected(0, n, 0), BAD);
        }
        for (int n : beyond(1, 6)) {
            changesNothing("wise(0, " + n + ", 1)", x -> x.wise(0, n, 1), BAD);
        }
        for (int f : beyond(1, 5)) {
            changesNothing("wise(0, 1, " + f + ")", x -> x.wise(0, 1, f), BAD);
        }
        for (int j : beyond(0, 2)) {
            changesNothing("sort(" + j + ", 1, 1, 1)", x -> x.sort(j, 1, 1, 1), BAD);
            changesNothing("wise(" + j + ", 1, 1)", x -> x.wise(j, 1, 1), BAD);
        }
        for (int tenths : beyond(0, 10)) {
            changesNothing("sort(0, " + tenths + ", 1, 1)", x -> x.sort(0, tenths, 1, 1), BAD);
        }
        for (int worth : beyond(1, 99)) {
            changesNothing("sort(0, 1, " + worth + ", 1)", x -> x.sort(0, 1, worth, 1), BAD);
        }
        for (int days : beyond(1, 3)) {
            changesNothing("sort(0, 1, 1, " + days + ")", x -> x.sort(0, 1, 1, days), BAD);
        }
        for (int units : beyond(1, 99)) {
            changesNothing("great(" + units + ", 9, 0)", x -> x.great(units, 9, 0), BAD);
        }
        // It is day 1.
        for (int due : beyond(1, 9)) {
            changesNothing("great(1, " + due + ", 0)", x -> x.great(1, due, 0), BAD);
        }
    }

    // ---- the promises themselves

    private static void promisesOfTheTown() {
        sentence("As told; nobody, no ASKINGS.");
        SleeveSlips x = new SleeveSlips();
        due("people", x.count(0), 0);
        due("askings", x.count(1), 0);
        due("a person", x.person(0, 0), BAD);
        due("an asking", x.asking(0, 0), BAD);
        due("two objects are two", told(PERSON).count(0) + new SleeveSlips().count(0), 1);
        sentence("The lowest n (1 .. 8) bytes of v, the highest of them first, come to THE TEXT: how many it has. BAD; FULL.");
        for (int n = 1; n <= 8; n++) {
            // "person 1 1 1;" in parts of n bytes, each with other bytes above it.
            SleeveSlips y = new SleeveSlips();
            byte[] bytes = PERSON.getBytes(StandardCharsets.ISO_8859_1);
            for (int at = 0; at < bytes.length; at += n) {
                int m = Math.min(n, bytes.length - at);
                long v = -1;
                for (int i = 0; i < m; i++) {
                    v = v << 8 | bytes[at + i];
                }
                due("type in parts of " + n, y.type(v, m), at + m);
            }
            due("read in parts of " + n, y.town(), 1);
        }
        SleeveSlips full = new SleeveSlips();
        enter(full, " ".repeat(296));
        for (int n = 8; n > 4; n--) {
            due("no place for " + n, full.type(0, n), FULL);
        }
        due("place for four", full.type(0x20202020L, 4), 300);
        due("full", full.type(0x20, 1), FULL);
        due("all blank", full.town(), 0);
        due("place again", full.type(0x20, 1), 1);
        sentence("THE TEXT is empty: how many bytes it had.");
        due("one", full.clear(), 1);
        due("none", full.clear(), 0);
        enter(full, " ".repeat(300));
        due("all", full.clear(), 300);
        due("place again", full.type(0, 8), 8);
        sentence("THE TEXT tells all, and is empty then: how many ITEMS. -10 less FAULT: nothing changes.");
        due("nothing is told by a fault", full.town(), -10);
        due("the text stays", full.count(4), 8);
        full.clear();
        enter(full, PERSON + ASK + ASK + HANG);
        due("items of each kind", full.town(), 4);
        due("empty then", full.count(4), 0);
        due("an empty text tells nobody", full.town() * 10 + full.count(0), 0);
        changesNothing("a fault in the last item", y -> {
            y.clear();
            enter(y, PERSON.repeat(4) + ASK.repeat(8) + "hangs 0 1;hangs 7 7;");
        }, y -> y.town(), -10 - 182);
        promisesOfThings();
    }

    private static void promisesOfThings() {
        sentence("Of one: 0 ROOM, 1 WORK a day, 2 PRICE, 3 how many SLIPS. BAD.");
        SleeveSlips x = told(PERSON.repeat(3) + "person 5 3 9;ask 3 0 9 99 9;ask 3 9 9 99 9;");
        due("the last one's room", x.person(3, 0), 5);
        due("his work", x.person(3, 1), 3);
        due("his price", x.person(3, 2), 9);
        due("no slips", x.person(3, 3), 0);
        due("no fifth", x.person(4, 0), BAD);
        x.promise(0);
        due("one slip", x.person(3, 3), 1);
        due("room is as told", x.person(3, 0), 5);
        sentence("5 what became of it (0 OPEN, 1 PINNED, 2 KEPT, 3 GONE), 6 LEFT (0: it is no SLIP), 7 on whose sleeve (NONE). BAD.");
        due("pinned", x.asking(0, 5), 1);
        due("left", x.asking(0, 6), 9);
        due("whose", x.asking(0, 7), 3);
        due("open", x.asking(1, 5), 0);
        due("open: no left", x.asking(1, 6), 0);
        due("open: nobody's", x.asking(1, 7), NONE);
        passDays(x, 3);
        due("kept", x.asking(0, 5), 2);
        due("kept: no left", x.asking(0, 6), 0);
        due("kept: nobody's", x.asking(0, 7), NONE);
        passDays(x, 7);
        due("gone", x.asking(1, 5), 3);
        due("gone: no left", x.asking(1, 6), 0);
        due("gone: nobody's", x.asking(1, 7), NONE);
        sentence("The i-th SLIP (from 0) of a sleeve: the ASKING; -5: not so many. BAD (i below 0).");
        SleeveSlips y = told("person 5 1 1;" + "ask 0 0 9 1 9;".repeat(5));
        due("an empty sleeve", y.slip(0, 0), NOT_SO_MANY);
        promiseAll(y, 4, 3, 2, 1, 0);
        for (int i = 0; i < 5; i++) {
            due("the " + i + "-th", y.slip(0, i), 4 - i);
        }
        due("no sixth", y.slip(0, 5), NOT_SO_MANY);
        due("below 0", y.slip(0, -1), BAD);
        due("no such sleeve, below 0", y.slip(1, -1), BAD);
        due("no such sleeve", y.slip(1, 0), BAD);
    }

    private static void promisesOfADay() {
        sentence("PROMISED: how many SLIPS he has. BAD; STATE: it is not OPEN, not its DAY; FULL: no ROOM.");
        SleeveSlips x = told("person 5 1 1;" + "ask 0 0 9 1 9;".repeat(7) + "ask 0 1 1 1 9;");
        for (int a = 0; a < 5; a++) {
            due("so many", x.promise(a), a + 1);
        }
        due("no room", x.promise(5), FULL);
        due("not open, and no room", x.promise(4), STATE);
        due("not its day, and no room", x.promise(7), STATE);
        due("no such one, and no room", x.promise(8), BAD);
        sentence("LET OFF: LEFT. BAD; STATE: it is not PINNED.");
        due("all of its work is left", x.letOff(4), 9);
        due("twice", x.letOff(4), STATE);
        due("open", x.letOff(5), STATE);
        due("none", x.letOff(8), BAD);
        due("room is free again", x.promise(5), 5);
        sentence("BROKEN: its WORTH. BAD; STATE: it is not PINNED.");
        due("its worth", x.breaks(5), 1);
        due("twice", x.breaks(5), STATE);
        due("let off", x.breaks(4), STATE);
        due("open", x.breaks(6), STATE);
        due("none", x.breaks(8), BAD);
        due("lost once", x.now(2), 1);
        sentence("HANDED to another one: how many SLIPS that one has. BAD; STATE: it is not PINNED, or is there; FULL: no ROOM.");
        SleeveSlips y = told("person 5 1 1;person 2 1 1;" + "ask 0 0 9 1 9;".repeat(4));
        promiseAll(y, 0, 1, 2);
        due("the first", y.hand(0, 1), 1);
        due("the second", y.hand(1, 1), 2);
        due("no room", y.hand(2, 1), FULL);
        due("is there, and no room", y.hand(1, 1), STATE);
        due("open, and no room", y.hand(3, 1), STATE);
        due("nobody", y.hand(2, 2), BAD);
        due("no asking", y.hand(4, 0), BAD);
        due("where it was", y.asking(2, 7), 0);
        sentence("UNDONE: how many more may be. STATE: none.");
        for (int more = 4; more >= 0; more--) {
            due("more", y.undo(), more);
        }
        due("none", y.undo(), STATE);
        sentence("A DAY goes by: how many were KEPT. STATE: all is over.");
        SleeveSlips z = told("person 5 3 1;person 5 3 1;" + "ask 0 0 1 9 0;".repeat(4) + "ask 1 0 1 7 0;".repeat(2));
        due("of nobody", new SleeveSlips().day(), 0);
        promiseAll(z, 0, 1, 2, 3, 4, 5);
        due("of all together", z.day(), 5);
        for (int d = 1; d <= 9; d++) {
            due("day " + d, z.now(0), d);
            due("none on day " + d, z.day(), 0);
        }
        due("over", z.day(), STATE);
        sentence("0 the DAY, 1 what is WON, 2 LOST, 3 how many SLIPS there are, 4 how many may be UNDONE. BAD.");
        SleeveSlips four = told("person 5 1 1;".repeat(4) + "ask 0 0 9 1 9;ask 1 0 9 1 9;ask 2 0 9 1 9;ask 3 0 9 1 9;ask 3 0 9 1 9;");
        for (int a = 0; a < 5; a++) {
            due("slips there are, of all", four.now(3), a);
            promiseAll(four, a);
            due("may be undone", four.now(4), a + 1);
        }
        int[] end = {10, 41, 9, 0, 0, BAD};
        for (int what = 0; what <= 5; what++) {
            due("now(" + what + ")", z.now(what), end[what]);
        }
    }

    private static void promisesOfTheRest() {
        sentence("TAKE: its WORTH (what = 0), the set (1). BAD.");
        SleeveSlips x = told("person 1 1 1;ask 0 0 1 9 9;ask 0 0 1 10 9;");
        due("its worth", x.take(0, 0), 10);
        due("the set", x.take(0, 1), 2);
        due("no other", x.take(0, 2), BAD);
        sentence("BOUNDS. BAD.");
        due("room for all", x.bound(0, 0), 19);
        due("work enough", x.bound(0, 1), 10);
        due("no other", x.bound(0, 2), BAD);
        due("nobody", x.bound(1, 0), BAD);
        sentence("A SORT is told: the tenths of all together. BAD (more than 10 together, too).");
        due("seven", x.sort(0, 7, 1, 1), 7);
        due("ten", x.sort(1, 3, 1, 1), 10);
        due("eleven", x.sort(2, 1, 1, 1), BAD);
        due("that is not told", x.wise(2, 1, 1), BAD);
        sentence("EXPECTED: upper (what = 0), lower number (1), in least terms. BAD.");
        x.sort(0, 4, 5, 1);
        x.sort(1, 0, 1, 1);
        due("upper", x.expected(0, 1, 0), 2);
        due("lower", x.expected(0, 1, 1), 1);
        due("no other", x.expected(0, 1, 2), BAD);
        due("nobody", x.expected(1, 1, 0), BAD);
        sentence("WISE: 1, 0. BAD (a SORT that was not told, too).");
        due("told with no tenths", x.wise(1, 1, 1), 1);
        due("not told", x.wise(2, 1, 1), BAD);
        sentence("RING: 1, 0.");
        due("none", x.ring(), 0);
        due("one", told(PERSON + ASK + ASK + "hangs 0 1;hangs 1 0;").ring(), 1);
        sentence("The i-th of ORDER; NONE; -5: not so many. BAD (i below 0).");
        due("the last", x.order(1), 1);
        due("not so many", x.order(2), NOT_SO_MANY);
        due("below 0", x.order(-1), BAD);
        sentence("FEWEST: how many (what = 0), the set (1). BAD.");
        due("no other", x.fewest(2), BAD);
        sentence("GREAT (a DAY no earlier than this one): what it costs (what = 0), who (1); NONE. BAD.");
        passDays(x, 4);
        due("this one", x.great(1, 4, 0), 1);
        due("an earlier one", x.great(1, 3, 0), BAD);
        due("the last one", x.great(6, 9, 1), 1);
        due("behind the last one", x.great(6, 10, 1), BAD);
        due("too many, an earlier one", x.great(99, 3, 0), BAD);
        sentence("RATE. NO: BAD.");
        due("nobody, no kind", x.rate(6, 1), NO);
        sentence("An IMAGE is kept: the DAY. BAD.");
        due("the day", x.keep(1), 4);
        due("no third", x.keep(2), BAD);
        sentence("All of that becomes as an IMAGE has it: the DAY. BAD; STATE: none was kept.");
        due("not kept", x.back(0), STATE);
        due("kept", x.back(1), 4);
        due("no third", x.back(2), BAD);
        sentence("0 PEOPLE, 1 ASKINGS, 2 HANGS, 3 tenths of all SORTS, 4 bytes of THE TEXT. BAD.");
        SleeveSlips y = busy();
        int[] counts = {2, 6, 2, 7, 8, BAD};
        for (int what = 0; what <= 5; what++) {
            due("count(" + what + ")", y.count(what), counts[what]);
        }
        sentence("THE TRACE.");
        due("of a busy one", y.trace(), 10101);
    }

    private static void manyCalls() {
        sentence("An object is used for at most 512 calls after it has been made");
        SleeveSlips x = new SleeveSlips();
        for (int i = 1; i <= 256; i++) {
            due("an image of an empty one", x.keep(i % 2), 0);
            due("back to it", x.back(i % 2), 0);
        }
        SleeveSlips y = told("person 1 1 1;person 1 1 1;ask 0 0 9 1 9;");
        promiseAll(y, 0);
        for (int i = 1; i <= 500; i++) {
            due("handed to and fro", y.hand(0, i % 2), 1);
        }
        due("twelve of them are known", y.now(4), 12);
    }
}
