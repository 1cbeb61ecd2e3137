import java.nio.charset.StandardCharsets;

/** For each promise of the document: ordinary inputs, the edges that it names, wrong inputs. */
public final class PromisesTest {
    private static final int BAD = -1, STATE = -2, FULL = -3, NONE = -9, NOT_SO_MANY = -5;
    private static final int LOW = Integer.MIN_VALUE, HIGH = Integer.MAX_VALUE;
    private static int wrong = 0;

    public static void main(String[] args) {
        promise1New();
        promise2Type();
        promise3Clear();
        promise4TownReads();
        promise4TownFaults();
        promise4TownLimits();
        promise4TownAnew();
        promise5Person();
        promise6Asking();
        promise7Slip();
        promise8Promise();
        promise9LetOff();
        promise10Breaks();
        promise11Hand();
        promise12Undo();
        promise13Day();
        promise13DayHangs();
        promise14Now();
        promise15Take();
        promise16Bound();
        promise17Sort();
        promise18Expected();
        promise19Wise();
        promise20Ring();
        promise21Order();
        promise22Fewest();
        promise23Great();
        promise24Rate();
        promise25Keep();
        promise26Back();
        promise27Count();
        promise28Trace();
        System.out.println(wrong == 0 ? "all promises are kept" : wrong + " answers are not as due");
        if (wrong != 0) {
            System.exit(1);
        }
    }

    private static void due(String call, long got, long want) {
        if (got != want) {
            wrong++;
            System.out.println(call + " answered " + got + ", due is " + want);
        }
    }

    private static void enter(SleeveSlips x, String text) {
        for (byte b : text.getBytes(StandardCharsets.ISO_8859_1)) {
            x.type(b, 1);
        }
    }

    private static SleeveSlips told(String text) {
        SleeveSlips x = new SleeveSlips();
        enter(x, text);
        due("town of " + text, x.town() < 0 ? 1 : 0, 0);
        return x;
    }

    private static void passDays(SleeveSlips x, int days) {
        for (int i = 0; i < days; i++) {
            x.day();
        }
    }

    private static void reads(String text, int items) {
        SleeveSlips x = new SleeveSlips();
        enter(x, text);
        due("town() of '" + text + "'", x.town(), items);
        due("the text behind '" + text + "'", x.count(4), 0);
    }

    private static void faults(String text, int fault) {
        SleeveSlips x = told("person 3 2 1; ask 0 0 4 50 6; ask 0 0 2 20 7; hangs 1 0;");
        x.promise(0);
        x.day();
        x.keep(1);
        x.day();
        enter(x, text);
        due("town() of '" + text + "'", x.town(), -10 - fault);
        due("the text behind '" + text + "'", x.count(4), text.length());
        due("people behind '" + text + "'", x.count(0), 1);
        due("askings behind '" + text + "'", x.count(1), 2);
        due("hangs behind '" + text + "'", x.count(2), 1);
        due("the room behind '" + text + "'", x.person(0, 0), 3);
        due("the day behind '" + text + "'", x.now(0), 2);
        due("what is won behind '" + text + "'", x.now(1), 50);
        due("the image behind '" + text + "'", x.back(1), 1);
    }

    private static void promise1New() {
        SleeveSlips x = new SleeveSlips();
        for (int what = 0; what <= 4; what++) {
            due("new: count(" + what + ")", x.count(what), 0);
            due("new: now(" + what + ")", x.now(what), 0);
        }
        due("new: trace()", x.trace(), 0);
        due("new: person(0, 0)", x.person(0, 0), BAD);
        due("new: asking(0, 0)", x.asking(0, 0), BAD);
        due("new: slip(0, 0)", x.slip(0, 0), BAD);
        due("new: promise(0)", x.promise(0), BAD);
        due("new: letOff(0)", x.letOff(0), BAD);
        due("new: breaks(0)", x.breaks(0), BAD);
        due("new: hand(0, 0)", x.hand(0, 0), BAD);
        due("new: undo()", x.undo(), STATE);
        due("new: take(0, 0)", x.take(0, 0), BAD);
        due("new: bound(0, 0)", x.bound(0, 0), BAD);
        due("new: expected(0, 0, 0)", x.expected(0, 0, 0), BAD);
        due("new: wise(0, 1, 1)", x.wise(0, 1, 1), BAD);
        due("new: ring()", x.ring(), 0);
        due("new: order(0)", x.order(0), NOT_SO_MANY);
        due("new: fewest(0)", x.fewest(0), 0);
        due("new: great(1, 0, 0)", x.great(1, 0, 0), NONE);
        due("new: rate(0, 0)", x.rate(0, 0), SleeveSlips.NO);
        due("new: back(0)", x.back(0), STATE);
        due("new: back(1)", x.back(1), STATE);
        due("new: keep(0)", x.keep(0), 0);
        due("new: back(0) of a kept one", x.back(0), 0);
        due("new: day()", x.day(), 0);
    }

    private static void promise2Type() {
        SleeveSlips x = new SleeveSlips();
        due("type n 0", x.type(65, 0), BAD);
        due("type n 9", x.type(65, 9), BAD);
        due("type n -1", x.type(65, -1), BAD);
        due("type n least", x.type(65, LOW), BAD);
        due("type n most", x.type(65, HIGH), BAD);
        due("nothing typed", x.count(4), 0);
        // "person 1" of eight bytes, then " 2 3;" with bytes above that do not count.
        due("type 8", x.type(0x706572736f6e2031L, 8), 8);
        due("type 5 of 8", x.type(0xffffff203220333bL, 5), 13);
        due("what was typed", x.town(), 1);
        due("highest first", x.person(0, 1), 2);
        due("highest first, last", x.person(0, 2), 3);
        for (int i = 1; i <= 37; i++) {
            due("type blanks", x.type(0x2020202020202020L, 8), 8L * i);
        }
        due("type beyond 300", x.type(0x2020202020L, 5), FULL);
        due("type n bad ahead of full", x.type(0, 9), BAD);
        due("nothing came", x.count(4), 296);
        due("type up to 300", x.type(0x20202020L, 4), 300);
        due("type one more", x.type(32, 1), FULL);
        due("still 300", x.count(4), 300);
        due("300 blanks", x.town(), 0);
    }

    private static void promise3Clear() {
        SleeveSlips x = new SleeveSlips();
        due("clear of none", x.clear(), 0);
        enter(x, "person");
        due("clear of six", x.clear(), 6);
        due("clear again", x.clear(), 0);
        enter(x, "person 1 1 1;");
        due("town behind clear", x.town(), 1);
        enter(x, "ask");
        due("clear leaves the town: bytes", x.clear(), 3);
        due("clear leaves the town", x.count(0), 1);
    }

    private static void promise4TownReads() {
        reads("", 0);
        reads("     ", 0);
        reads("person 1 1 0;", 1);
        reads("person 5 3 9;", 1);
        reads("  person   5  3   9   ;  ", 1);
        reads("person 1 1 1;ask 0 0 1 1 0;ask 0 9 9 99 9;hangs 0 1;hangs 0 1;hangs 1 0;", 6);
        reads("person 1 1 1;ask 0 4 1 1 4;person 1 1 1;ask 1 0 1 1 9;", 4);
        SleeveSlips x = told("person 4 3 2;person 1 1 0;ask 1 3 7 42 8;ask 0 0 1 1 0;hangs 0 1;");
        due("people", x.count(0), 2);
        due("askings", x.count(1), 2);
        due("hangs", x.count(2), 1);
        due("a room", x.person(0, 0), 4);
        due("a worth", x.asking(0, 3), 42);
        // What was typed ahead of clear() is none of the text.
        SleeveSlips rest = new SleeveSlips();
        enter(rest, "person 1 1 12");
        rest.clear();
        enter(rest, "person 1 1 1");
        due("a rest of an older text", rest.town(), -22);
        enter(rest, ";");
        due("ended", rest.town(), 1);
        SleeveSlips twice = told("person 1 1 1;ask 0 0 1 1 0;ask 0 0 1 1 0;hangs 0 1;hangs 0 1;");
        due("told again: once more", twice.count(2), 2);
    }

    private static void promise4TownFaults() {
        faults(";", 0);
        faults("7", 0);
        faults("   ;", 3);
        faults("Person 1 1 1;", 0);
        faults("persons 1 1 1;", 0);
        faults("pers", 0);
        faults("personz 1 1 1;", 0);
        faults("aask 0 0 1 1 0;", 0);
        faults("qerson 1 1 1;", 0);
        faults("persom 1 1 1;", 0);
        faults("person 1 1 1;hangz", 13);
        faults("p", 0);
        faults("\t", 0);
        faults("\u0000", 0);
        faults("\u00e9", 0);
        faults("person", 6);
        faults("person  ", 8);
        faults("person ;", 7);
        faults("person 0 1 1;", 7);
        faults("person 6 1 1;", 7);
        faults("person 100 1 1;", 7);
        faults("person 4294967297 1 1;", 7);
        faults("person 18446744073709551617 1 1;", 7);
        faults("person 01 1 1;", 7);
        faults("person 00 1 1;", 7);
        faults("person -1 1 1;", 7);
        faults("person ask 1 1;", 7);
        faults("person 1 0 1;", 9);
        faults("person 1 4 1;", 9);
        faults("person 1 1 10;", 11);
        faults("person 1 1 00;", 11);
        faults("person 1 1 1", 12);
        faults("person 1 1 1  ", 14);
        faults("person 1 1;", 10);
        faults("person 1 1 1 1;", 13);
        faults("person 1 1 1 ask", 13);
        faults("person 1 1 1;;", 13);
        faults("person 1 1 1; x", 14);
        faults("person 1 1 1;ask", 16);
        faults("ask 0 0 1 1 0;", 4);
        faults("hangs 0 1;", 6);
        faults("hangs", 5);
        String one = "person 1 1 1;";
        faults(one + "ask 1 0 1 1 0;", 17);
        faults(one + "ask 0 10 1 1 9;", 19);
        faults(one + "ask 0 0 0 1 9;", 21);
        faults(one + "ask 0 0 10 1 9;", 21);
        faults(one + "ask 0 0 1 0 9;", 23);
        faults(one + "ask 0 0 1 100 9;", 23);
        faults(one + "ask 0 5 1 1 4;", 25);
        faults(one + "ask 0 5 1 1 10;", 25);
        faults(one + "ask 0 5 1 1 5", 26);
        String two = one + "ask 0 0 1 1 0;ask 0 0 1 1 0;";
        faults(two + "hangs 2 0;", two.length() + 6);
        faults(two + "hangs 0 2;", two.length() + 8);
        faults(two + "hangs 1 1;", two.length() + 8);
        faults(two + "hangs 0 1", two.length() + 9);
        faults(two + "hangs 0 1 1;", two.length() + 10);
        faults(one + "ask 0 0 1 1 0;hangs 0 1;ask 0 0 1 1 0;", one.length() + 14 + 8);
    }

    private static void promise4TownLimits() {
        String person = "person 1 1 1;";
        String ask = "ask 0 0 1 1 0;";
        String hang = "hangs 0 1;";
        reads(person.repeat(4), 4);
        faults(person.repeat(5), 4 * 13);
        faults(person.repeat(4) + "  person", 4 * 13 + 2);
        reads(person + ask.repeat(8), 9);
        faults(person + ask.repeat(9), 13 + 8 * 14);
        reads(person + ask.repeat(2) + hang.repeat(8), 11);
        faults(person + ask.repeat(2) + hang.repeat(9), 13 + 28 + 80);
        faults(person + ask.repeat(2) + hang.repeat(8) + "hangs", 13 + 28 + 80);
        String full = person + ask.repeat(8) + hang.repeat(8);
        String blanks = " ".repeat(300 - full.length());
        reads(full + blanks, 17);
        reads(blanks + full, 17);
        // A full text that ends too early has its fault at 300.
        faults(full.substring(0, full.length() - 1) + " " + blanks, 300);
    }

    private static void promise4TownAnew() {
        SleeveSlips x = told("person 3 2 5;person 2 1 0;ask 0 0 1 7 9;ask 0 0 9 8 9;ask 0 0 9 8 0;hangs 1 0;");
        x.sort(1, 4, 10, 2);
        x.rate(0, 0);
        x.promise(0);
        x.promise(1);
        x.promise(2);
        x.keep(0);
        x.day();
        x.hand(1, 1);
        x.keep(1);
        enter(x, "person 1 2 3;ask 0 0 5 6 7;ask 0 0 1 1 1;");
        due("anew: town()", x.town(), 3);
        due("anew: the day", x.now(0), 0);
        due("anew: won", x.now(1), 0);
        due("anew: lost", x.now(2), 0);
        due("anew: slips", x.now(3), 0);
        due("anew: to undo", x.now(4), 0);
        due("anew: undo()", x.undo(), STATE);
        due("anew: image 0", x.back(0), STATE);
        due("anew: image 1", x.back(1), STATE);
        due("anew: people", x.count(0), 1);
        due("anew: hangs", x.count(2), 0);
        due("anew: sorts stay", x.count(3), 4);
        due("anew: a sort stays told", x.wise(1, 1, 1), 1);
        due("anew: the trace stays", x.trace(), 1);
        due("anew: open", x.asking(1, 5), 0);
        due("anew: no slip", x.asking(0, 6), 0);
        due("anew: no sleeve", x.asking(0, 7), NONE);
        due("anew: hangs are gone", x.order(0), 0);
        due("anew: the second can be promised", x.promise(1), 1);
        due("anew: and is kept without the first", x.day(), 1);
        due("anew: an empty text", x.town(), 0);
        due("anew: nobody", x.count(0), 0);
        due("anew: no askings", x.count(1), 0);
        due("anew: the first day", x.now(0), 0);
    }

    private static void promise5Person() {
        SleeveSlips x = told("person 5 1 9;person 2 3 0;ask 1 0 2 1 9;");
        due("room of 0", x.person(0, 0), 5);
        due("work of 0", x.person(0, 1), 1);
        due("price of 0", x.person(0, 2), 9);
        due("slips of 0", x.person(0, 3), 0);
        due("room of 1", x.person(1, 0), 2);
        due("work of 1", x.person(1, 1), 3);
        due("price of 1", x.person(1, 2), 0);
        x.promise(0);
        due("slips of 1", x.person(1, 3), 1);
        x.day();
        due("slips of 1, kept", x.person(1, 3), 0);
        for (int p : new int[] {-1, 2, 4, LOW, HIGH}) {
            due("person(" + p + ", 0)", x.person(p, 0), BAD);
        }
        for (int what : new int[] {-1, 4, LOW, HIGH}) {
            due("person(0, " + what + ")", x.person(0, what), BAD);
        }
    }

    private static void promise6Asking() {
        SleeveSlips x = told("person 5 1 9;person 2 3 0;ask 1 0 7 60 9;ask 0 2 1 2 5;");
        int[] first = {1, 0, 7, 60, 9, 0, 0, NONE};
        int[] second = {0, 2, 1, 2, 5, 0, 0, NONE};
        for (int what = 0; what < 8; what++) {
            due("asking(0, " + what + ")", x.asking(0, what), first[what]);
            due("asking(1, " + what + ")", x.asking(1, what), second[what]);
        }
        x.promise(0);
        due("pinned", x.asking(0, 5), 1);
        due("left", x.asking(0, 6), 7);
        due("on whose sleeve", x.asking(0, 7), 1);
        due("work as told", x.asking(0, 2), 7);
        x.hand(0, 0);
        due("handed: whom", x.asking(0, 0), 1);
        due("handed: on whose sleeve", x.asking(0, 7), 0);
        x.hand(0, 1);
        x.day();
        due("left behind a day", x.asking(0, 6), 4);
        x.day();
        x.day();
        due("kept", x.asking(0, 5), 2);
        due("kept: left", x.asking(0, 6), 0);
        due("kept: no sleeve", x.asking(0, 7), NONE);
        due("not promised: gone", x.asking(1, 5), 3);
        due("gone: left", x.asking(1, 6), 0);
        due("gone: no sleeve", x.asking(1, 7), NONE);
        for (int a : new int[] {-1, 2, 8, LOW, HIGH}) {
            due("asking(" + a + ", 0)", x.asking(a, 0), BAD);
        }
        for (int what : new int[] {-1, 8, LOW, HIGH}) {
            due("asking(0, " + what + ")", x.asking(0, what), BAD);
        }
    }

    private static void promise7Slip() {
        SleeveSlips x = told("person 5 1 0;person 1 1 0;ask 0 0 9 1 9;ask 0 0 9 1 9;ask 0 0 9 1 9;");
        x.promise(2);
        x.promise(0);
        x.promise(1);
        due("slip(0, 0)", x.slip(0, 0), 2);
        due("slip(0, 1)", x.slip(0, 1), 0);
        due("slip(0, 2)", x.slip(0, 2), 1);
        due("slip(0, 3)", x.slip(0, 3), NOT_SO_MANY);
        due("slip(0, 5)", x.slip(0, 5), NOT_SO_MANY);
        due("slip(0, most)", x.slip(0, HIGH), NOT_SO_MANY);
        due("slip(1, 0)", x.slip(1, 0), NOT_SO_MANY);
        due("slip(0, -1)", x.slip(0, -1), BAD);
        due("slip(0, least)", x.slip(0, LOW), BAD);
        due("slip(2, 0)", x.slip(2, 0), BAD);
        due("slip(-1, 0)", x.slip(-1, 0), BAD);
        due("slip(most, most)", x.slip(HIGH, HIGH), BAD);
        x.letOff(0);
        due("the others move up", x.slip(0, 1), 1);
        due("one less", x.slip(0, 2), NOT_SO_MANY);
        SleeveSlips last = told("person 1 1 0;".repeat(3) + "person 5 1 0;" + "ask 3 0 9 1 9;".repeat(5));
        for (int a = 0; a < 5; a++) {
            due("the last sleeve", last.promise(a), a + 1);
        }
        due("the last place of all", last.slip(3, 4), 4);
        last.letOff(0);
        due("moved up", last.slip(3, 3), 4);
        last.undo();
        due("moved down", last.slip(3, 4), 4);
        last.letOff(4);
        due("the last one gone", last.slip(3, 4), NOT_SO_MANY);
    }

    private static void promise8Promise() {
        SleeveSlips x = told("person 2 1 0;person 1 1 0;ask 0 0 1 1 0;ask 0 0 5 1 9;ask 0 0 1 1 9;ask 0 1 1 1 9;ask 1 0 1 1 9;");
        due("promise(-1)", x.promise(-1), BAD);
        due("promise(5)", x.promise(5), BAD);
        due("promise(least)", x.promise(LOW), BAD);
        due("too early", x.promise(3), STATE);
        due("the first", x.promise(0), 1);
        due("promised already", x.promise(0), STATE);
        due("the second", x.promise(1), 2);
        due("no room", x.promise(2), FULL);
        due("promised already, and no room", x.promise(1), STATE);
        due("too early, and no room", x.promise(3), STATE);
        due("another sleeve", x.promise(4), 1);
        x.letOff(1);
        due("let off: not open", x.promise(1), STATE);
        due("room again", x.promise(2), 2);
        x.day();
        due("kept: not open", x.promise(0), STATE);
        due("on its day", x.promise(3), 2);
        SleeveSlips y = told("person 2 1 0;ask 0 0 1 1 5;");
        y.day();
        due("too late", y.promise(0), STATE);
    }

    private static void promise9LetOff() {
        SleeveSlips x = told("person 2 2 0;ask 0 0 5 30 9;ask 0 0 1 1 9;");
        due("letOff(-1)", x.letOff(-1), BAD);
        due("letOff(2)", x.letOff(2), BAD);
        due("letOff(most)", x.letOff(HIGH), BAD);
        due("open", x.letOff(0), STATE);
        x.promise(0);
        x.day();
        due("letOff(0)", x.letOff(0), 3);
        due("gone", x.asking(0, 5), 3);
        due("nothing left", x.asking(0, 6), 0);
        due("nothing lost", x.now(2), 0);
        due("no slip", x.person(0, 3), 0);
        due("again", x.letOff(0), STATE);
        due("gone as open", x.letOff(1), STATE);
    }

    private static void promise10Breaks() {
        SleeveSlips x = told("person 2 2 0;ask 0 0 5 30 9;ask 0 0 1 12 9;");
        due("breaks(-1)", x.breaks(-1), BAD);
        due("breaks(2)", x.breaks(2), BAD);
        due("breaks(least)", x.breaks(LOW), BAD);
        due("open", x.breaks(0), STATE);
        x.promise(0);
        x.promise(1);
        due("breaks(0)", x.breaks(0), 30);
        due("gone", x.asking(0, 5), 3);
        due("lost", x.now(2), 30);
        due("one slip", x.slip(0, 0), 1);
        due("again", x.breaks(0), STATE);
        due("breaks(1)", x.breaks(1), 12);
        due("both lost", x.now(2), 42);
        due("none won", x.now(1), 0);
    }

    private static void promise11Hand() {
        SleeveSlips x = told("person 3 1 0;person 1 1 0;person 5 1 0;ask 0 0 5 30 9;ask 0 0 3 12 9;ask 0 0 2 2 9;");
        due("open", x.hand(0, 1), STATE);
        x.promise(0);
        x.promise(1);
        x.promise(2);
        due("hand(-1, 1)", x.hand(-1, 1), BAD);
        due("hand(3, 1)", x.hand(3, 1), BAD);
        due("hand(0, -1)", x.hand(0, -1), BAD);
        due("hand(0, 3)", x.hand(0, 3), BAD);
        due("hand(most, least)", x.hand(HIGH, LOW), BAD);
        due("is there", x.hand(0, 0), STATE);
        x.day();
        due("hand(0, 1)", x.hand(0, 1), 1);
        due("left as it is", x.asking(0, 6), 4);
        due("his others", x.slip(0, 0), 1);
        due("is there now", x.hand(0, 1), STATE);
        due("no room", x.hand(1, 1), FULL);
        due("hand(1, 2)", x.hand(1, 2), 1);
        due("hand(0, 2)", x.hand(0, 2), 2);
        due("behind his others", x.slip(2, 1), 0);
        due("back to the first", x.hand(1, 0), 2);
        due("behind his others too", x.slip(0, 1), 1);
        x.letOff(2);
        due("gone", x.hand(2, 1), STATE);
        due("gone, and no such one", x.hand(2, 3), BAD);
    }

    private static void promise12Undo() {
        SleeveSlips x = told("person 5 1 0;person 5 1 0;ask 0 0 5 30 9;ask 0 0 3 12 9;ask 0 0 2 2 9;ask 0 1 2 2 9;");
        due("none yet", x.undo(), STATE);
        x.promise(0);
        x.promise(1);
        x.promise(2);
        due("a promise undone", x.undo(), 2);
        due("open again", x.asking(2, 5), 0);
        due("no slip", x.asking(2, 6), 0);
        due("no sleeve", x.asking(2, 7), NONE);
        due("promised anew", x.promise(2), 3);
        x.letOff(0);
        due("let off, undone", x.undo(), 3);
        due("pinned again", x.asking(0, 5), 1);
        due("its left", x.asking(0, 6), 5);
        due("its place", x.slip(0, 0), 0);
        due("the next place", x.slip(0, 1), 1);
        x.breaks(1);
        due("broken, undone", x.undo(), 3);
        due("nothing lost", x.now(2), 0);
        due("its place in the midst", x.slip(0, 1), 1);
        due("the last place", x.slip(0, 2), 2);
        x.hand(1, 1);
        due("handed, undone", x.undo(), 3);
        due("its sleeve", x.asking(1, 7), 0);
        due("its place behind hand", x.slip(0, 1), 1);
        due("the other sleeve", x.person(1, 3), 0);
        x.day();
        due("another day", x.undo(), STATE);
        x.hand(0, 1);
        due("left of a worked one", x.asking(0, 6), 4);
        due("handed and undone on day 1", x.undo(), 0);
        due("left stays", x.asking(0, 6), 4);
        due("refused ones are not known", x.promise(0), STATE);
        due("none to undo", x.undo(), STATE);
        for (int i = 0; i < 14; i++) {
            x.hand(0, 1 - i % 2);
        }
        due("twelve are known", x.now(4), 12);
        for (int i = 11; i >= 0; i--) {
            due("one of twelve", x.undo(), i);
        }
        due("no more", x.undo(), STATE);
        due("the two oldest are lost", x.slip(0, 2), 0);
    }

    private static void promise13Day() {
        SleeveSlips x = told("person 3 3 0;person 2 1 0;ask 0 0 2 10 0;ask 0 0 1 20 0;ask 0 0 1 5 0;ask 1 0 2 7 1;ask 1 0 9 50 9;");
        x.promise(0);
        x.promise(1);
        x.promise(2);
        x.promise(3);
        due("two are kept", x.day(), 2);
        due("won", x.now(1), 30);
        due("broken as it was due", x.asking(2, 5), 3);
        due("lost", x.now(2), 5);
        due("open is gone", x.asking(4, 5), 3);
        due("gone open ones are not lost", x.now(2), 5);
        due("worked on", x.asking(3, 6), 1);
        due("the next day", x.now(0), 1);
        due("done on the day it is due", x.day(), 1);
        due("won of both days", x.now(1), 37);
        for (int d = 2; d < 10; d++) {
            due("an empty day", x.day(), 0);
        }
        due("behind the last", x.now(0), 10);
        due("all is over", x.day(), STATE);
        due("still over", x.now(0), 10);
        SleeveSlips order = told("person 2 1 0;ask 0 0 2 1 9;ask 0 0 1 1 9;");
        order.promise(0);
        order.promise(1);
        due("in their order, not the shortest", order.day(), 0);
        due("the first is worked on", order.asking(0, 6), 1);
        due("then the first is kept", order.day(), 1);
        due("then the second", order.asking(1, 6), 1);
    }

    private static void promise13DayHangs() {
        SleeveSlips x = told("person 3 3 0;person 3 1 0;ask 0 0 1 1 9;ask 0 0 1 2 9;ask 1 0 1 4 9;ask 1 0 3 8 1;hangs 0 1;hangs 2 0;");
        x.promise(0);
        x.promise(1);
        x.promise(2);
        x.promise(3);
        // The second is kept first, frees the first, and that the slip of him who works behind.
        due("freed at once", x.day(), 3);
        due("won", x.now(1), 7);
        due("not reached", x.asking(3, 6), 3);
        SleeveSlips y = told("person 3 1 0;person 3 3 0;ask 0 0 1 1 9;ask 1 0 1 2 9;hangs 0 1;");
        y.promise(0);
        y.promise(1);
        due("he who works ahead waits", y.day(), 1);
        due("untouched", y.asking(0, 6), 1);
        due("a day later", y.day(), 1);
        SleeveSlips z = told("person 3 3 0;ask 0 0 1 1 2;ask 0 0 1 2 9;ask 0 0 1 4 9;hangs 0 1;hangs 0 2;");
        z.promise(0);
        z.promise(2);
        due("one of two is not kept", z.day(), 1);
        due("never freed", z.day(), 0);
        due("nor on the last day", z.day(), 0);
        due("broken", z.asking(0, 5), 3);
        due("lost", z.now(2), 1);
    }

    private static void promise14Now() {
        SleeveSlips x = told("person 3 1 0;person 3 1 0;ask 0 0 1 11 9;ask 1 0 5 22 9;ask 0 0 5 33 9;");
        x.promise(0);
        x.promise(1);
        x.promise(2);
        due("slips of all", x.now(3), 3);
        due("to undo", x.now(4), 3);
        x.breaks(2);
        due("lost", x.now(2), 33);
        due("slips less", x.now(3), 2);
        x.day();
        due("day", x.now(0), 1);
        due("won", x.now(1), 11);
        due("slips behind", x.now(3), 1);
        due("to undo behind", x.now(4), 0);
        for (int what : new int[] {-1, 5, LOW, HIGH}) {
            due("now(" + what + ")", x.now(what), BAD);
        }
    }

    private static void promise15Take() {
        // Room for one: the first and the third fit, for the first is done when the third comes.
        SleeveSlips x = told("person 1 2 0;person 1 1 0;ask 0 0 2 10 0;ask 0 0 3 15 5;ask 0 1 2 10 1;ask 1 0 1 99 0;hangs 0 2;");
        due("take(0, 0)", x.take(0, 0), 20);
        due("take(0, 1)", x.take(0, 1), 5);
        due("take(1, 0)", x.take(1, 0), 99);
        due("take(1, 1)", x.take(1, 1), 8);
        x.promise(1);
        due("whatever became of them", x.take(0, 1), 5);
        due("nothing is changed", x.slip(0, 0), 1);
        x.day();
        due("from this day on", x.take(0, 1), 4);
        due("from this day on: worth", x.take(0, 0), 10);
        due("none any more", x.take(1, 1), 0);
        SleeveSlips same = told("person 1 1 0;ask 0 0 1 7 0;ask 0 0 1 7 0;ask 0 0 1 7 0;");
        due("the least bits", same.take(0, 1), 1);
        SleeveSlips pair = told("person 1 1 0;ask 0 0 1 7 0;ask 0 0 1 14 0;ask 0 1 1 7 1;");
        due("the best pair", pair.take(0, 1), 6);
        // 0 and 1 alone are as much as 2 alone.
        SleeveSlips tie = told("person 2 1 0;ask 0 0 1 7 1;ask 0 0 1 7 1;ask 0 0 2 14 1;");
        due("least bits of two sets", tie.take(0, 1), 3);
        // Both are due alike: the least number is worked on first.
        SleeveSlips number = told("person 2 1 0;ask 0 0 2 5 2;ask 0 0 1 5 2;ask 0 1 1 5 9;");
        due("the least number first", number.take(0, 1), 3);
        SleeveSlips turned = told("person 2 1 0;ask 0 0 1 5 2;ask 0 0 2 5 2;ask 0 1 1 5 9;");
        due("the short one first", turned.take(0, 1), 7);
        for (int p : new int[] {-1, 2, LOW, HIGH}) {
            due("take(" + p + ", 0)", x.take(p, 0), BAD);
        }
        for (int what : new int[] {-1, 2, LOW, HIGH}) {
            due("take(0, " + what + ")", x.take(0, what), BAD);
        }
        SleeveSlips end = told("person 1 1 0;ask 0 8 2 5 9;ask 0 9 1 6 9;ask 0 9 2 99 9;");
        due("on the last day", end.take(0, 1), 2);
        passDays(x, 9);
        due("all is over", x.take(0, 0), 0);
    }

    private static void promise16Bound() {
        SleeveSlips x = told("person 1 1 0;ask 0 0 1 10 5;ask 0 0 1 20 5;ask 0 0 9 40 5;ask 0 1 1 3 5;ask 0 1 2 5 5;");
        // One unit a day and one place: 20, then 5.
        due("take", x.take(0, 0), 25);
        // With room for all, 5 units in 6 days: all but the great one.
        due("bound(0, 0)", x.bound(0, 0), 38);
        // With work enough, one place a day: 40, then 5.
        due("bound(0, 1)", x.bound(0, 1), 45);
        x.promise(0);
        x.day();
        due("bound(0, 0) from day 1", x.bound(0, 0), 8);
        due("bound(0, 1) from day 1", x.bound(0, 1), 5);
        due("nothing is changed", x.now(3) + x.now(1), 10);
        for (int p : new int[] {-1, 1, LOW, HIGH}) {
            due("bound(" + p + ", 0)", x.bound(p, 0), BAD);
        }
        for (int what : new int[] {-1, 2, LOW, HIGH}) {
            due("bound(0, " + what + ")", x.bound(0, what), BAD);
        }
    }

    private static void promise17Sort() {
        SleeveSlips x = new SleeveSlips();
        due("sort(0, 4, 99, 3)", x.sort(0, 4, 99, 3), 4);
        due("sort(2, 6, 1, 1)", x.sort(2, 6, 1, 1), 10);
        due("too many together", x.sort(1, 1, 1, 1), BAD);
        due("not told by that", x.wise(1, 1, 1), BAD);
        due("none is fine", x.sort(1, 0, 50, 2), 10);
        due("told anew", x.sort(0, 2, 99, 3), 8);
        due("told anew, too many", x.sort(0, 5, 99, 3), BAD);
        due("nothing changed", x.count(3), 8);
        due("up to ten", x.sort(0, 4, 99, 3), 10);
        SleeveSlips y = new SleeveSlips();
        due("ten at once", y.sort(0, 10, 1, 1), 10);
        int[][] bad = {{-1, 1, 1, 1}, {3, 1, 1, 1}, {0, -1, 1, 1}, {0, 11, 1, 1}, {0, 1, 0, 1}, {0, 1, 100, 1},
                {0, 1, 1, 0}, {0, 1, 1, 4}, {LOW, 1, 1, 1}, {HIGH, 1, 1, 1}, {1, LOW, 1, 1}, {1, HIGH, 1, 1}};
        for (int[] b : bad) {
            due("sort of a bad number", y.sort(b[0], b[1], b[2], b[3]), BAD);
        }
        due("still ten", y.count(3), 10);
    }

    private static void promise18Expected() {
        SleeveSlips x = told("person 1 1 0;person 2 1 0;person 5 1 0;");
        due("no sorts: upper", x.expected(0, 6, 0), 0);
        due("no sorts: lower", x.expected(0, 6, 1), 1);
        x.sort(0, 10, 6, 3);
        due("no days", x.expected(0, 0, 0), 0);
        due("no days: lower", x.expected(0, 0, 1), 1);
        // One place: on days 0 and 3; also what ends behind the days counts.
        due("one place", x.expected(0, 6, 0), 12);
        due("one place, 4 days", x.expected(0, 4, 0), 12);
        due("one place, 3 days", x.expected(0, 3, 0), 6);
        // Two places: on days 0, 1, 3, 4.
        due("two places", x.expected(1, 6, 0), 24);
        due("three places are enough", x.expected(2, 6, 0), 36);
        x.sort(0, 5, 2, 2);
        x.sort(1, 1, 99, 1);
        // One day: (5 * 2 + 99) / 10.
        due("one day: upper", x.expected(0, 1, 0), 109);
        due("one day: lower", x.expected(0, 1, 1), 10);
        // Two days in one place: taking the 2 would lose 10.9 for the day behind; so 9.9 + 10.9.
        due("two days: upper", x.expected(0, 2, 0), 104);
        due("two days: lower", x.expected(0, 2, 1), 5);
        // Two places: both can be taken.
        due("two days, two places: upper", x.expected(1, 2, 0), 109);
        due("two days, two places: lower", x.expected(1, 2, 1), 5);
        passDays(x, 10);
        due("the day is of no matter", x.expected(1, 2, 0), 109);
        for (int p : new int[] {-1, 3, LOW, HIGH}) {
            due("expected(" + p + ", 1, 0)", x.expected(p, 1, 0), BAD);
        }
        for (int n : new int[] {-1, 7, LOW, HIGH}) {
            due("expected(0, " + n + ", 0)", x.expected(0, n, 0), BAD);
        }
        for (int what : new int[] {-1, 2, LOW, HIGH}) {
            due("expected(0, 1, " + what + ")", x.expected(0, 1, what), BAD);
        }
    }

    private static void promise19Wise() {
        SleeveSlips x = new SleeveSlips();
        due("not told", x.wise(0, 1, 1), BAD);
        x.sort(0, 5, 2, 2);
        x.sort(1, 1, 99, 1);
        due("the last day", x.wise(0, 1, 1), 1);
        // 2 now, against 10.9 on the second day.
        due("waits", x.wise(0, 2, 1), 0);
        due("waits long", x.wise(0, 6, 1), 0);
        due("room for both", x.wise(0, 2, 2), 1);
        due("one day only", x.wise(1, 6, 1), 1);
        due("not told still", x.wise(2, 1, 1), BAD);
        x.sort(2, 0, 1, 3);
        due("told, though it never comes", x.wise(2, 3, 1), 0);
        due("three places", x.wise(2, 6, 3), 1);
        SleeveSlips even = new SleeveSlips();
        even.sort(0, 10, 5, 1);
        even.sort(1, 0, 10, 3);
        // 10, against 5 on each of two days.
        due("no less", even.wise(1, 3, 1), 1);
        even.sort(1, 0, 9, 3);
        due("less", even.wise(1, 3, 1), 0);
        due("not less in two days", even.wise(1, 2, 1), 1);
        int[][] bad = {{-1, 1, 1}, {3, 1, 1}, {0, 0, 1}, {0, 7, 1}, {0, 1, 0}, {0, 1, 6}, {LOW, 1, 1}, {HIGH, 1, 1},
                {0, LOW, 1}, {0, HIGH, 1}, {0, 1, LOW}, {0, 1, HIGH}};
        for (int[] b : bad) {
            due("wise of a bad number", x.wise(b[0], b[1], b[2]), BAD);
        }
        due("the most days and places", x.wise(0, 6, 5), 1);
    }

    private static final String THREE = "person 5 1 0;ask 0 0 1 1 9;ask 0 0 1 1 9;ask 0 0 1 1 9;";

    private static void promise20Ring() {
        due("no hangs", told(THREE).ring(), 0);
        due("a row", told(THREE + "hangs 0 1;hangs 1 2;hangs 0 2;").ring(), 0);
        due("two on one another", told(THREE + "hangs 0 1;hangs 1 0;").ring(), 1);
        due("a ring of three", told(THREE + "hangs 2 1;hangs 1 0;hangs 0 2;").ring(), 1);
        due("told twice", told(THREE + "hangs 2 1;hangs 2 1;").ring(), 0);
        SleeveSlips x = told(THREE + "hangs 0 1;hangs 1 0;");
        passDays(x, 10);
        due("whatever became of them", x.ring(), 1);
    }

    private static void promise21Order() {
        SleeveSlips x = told(THREE + "hangs 0 2;");
        due("the first", x.order(0), 1);
        due("the second", x.order(1), 2);
        due("the third", x.order(2), 0);
        due("no fourth", x.order(3), NOT_SO_MANY);
        due("most", x.order(HIGH), NOT_SO_MANY);
        due("-1", x.order(-1), BAD);
        due("least", x.order(LOW), BAD);
        SleeveSlips row = told(THREE + "hangs 0 1;hangs 1 2;");
        due("a row: the first", row.order(0), 2);
        due("a row: the second", row.order(1), 1);
        due("a row: the third", row.order(2), 0);
        SleeveSlips freed = told(THREE + "ask 0 0 1 1 9;hangs 0 1;");
        due("freed: the first", freed.order(0), 1);
        due("freed: the least number at once", freed.order(1), 0);
        due("freed: the third", freed.order(2), 2);
        SleeveSlips ring = told(THREE + "hangs 1 2;hangs 2 1;");
        due("a ring", ring.order(0), NONE);
        due("a ring, not so many", ring.order(3), NONE);
        due("a ring, -1", ring.order(-1), BAD);
    }

    private static void promise22Fewest() {
        SleeveSlips none = told(THREE + "hangs 0 1;");
        due("none: how many", none.fewest(0), 0);
        due("none: the set", none.fewest(1), 0);
        SleeveSlips two = told(THREE + "hangs 1 2;hangs 2 1;");
        due("two: how many", two.fewest(0), 1);
        due("two: the least bits", two.fewest(1), 2);
        SleeveSlips shared = told(THREE + "hangs 0 2;hangs 2 0;hangs 1 2;hangs 2 1;");
        due("one for both rings: how many", shared.fewest(0), 1);
        due("one for both rings", shared.fewest(1), 4);
        SleeveSlips all = told(THREE + "hangs 0 1;hangs 1 0;hangs 0 2;hangs 2 0;hangs 1 2;hangs 2 1;");
        due("all on all: how many", all.fewest(0), 2);
        due("all on all", all.fewest(1), 3);
        SleeveSlips pairs = told(THREE + "ask 0 0 1 1 9;hangs 0 3;hangs 3 0;hangs 1 2;hangs 2 1;");
        due("two pairs", pairs.fewest(1), 3);
        for (int what : new int[] {-1, 2, LOW, HIGH}) {
            due("fewest(" + what + ")", all.fewest(what), BAD);
        }
    }

    private static void promise23Great() {
        SleeveSlips x = told("person 1 2 5;person 2 1 3;person 1 3 5;person 1 1 9;ask 1 0 4 1 9;ask 2 0 1 1 9;ask 1 0 3 1 9;");
        due("the cheapest", x.great(1, 0, 0), 3);
        due("the cheapest: who", x.great(1, 0, 1), 2);
        due("of several the least number", x.great(3, 0, 0), 13);
        due("of several the least number: who", x.great(3, 0, 1), 3);
        due("the third", x.great(4, 0, 1), 7);
        due("all", x.great(7, 0, 0), 3 + 10 + 15 + 9);
        due("all: who", x.great(7, 0, 1), 15);
        due("too much", x.great(8, 0, 0), NONE);
        due("too much: who", x.great(8, 0, 1), NONE);
        due("in ten days", x.great(70, 9, 0), 370);
        due("in ten days, one more", x.great(71, 9, 0), NONE);
        SleeveSlips wide = told("person 1 3 2;".repeat(4));
        due("the most units", wide.great(99, 9, 0), 198);
        due("the most units: who", wide.great(99, 9, 1), 15);
        due("beyond the most", wide.great(100, 9, 1), BAD);
        x.promise(0);
        due("work to be done first", x.great(1, 3, 0), 5);
        due("work to be done first: who", x.great(1, 3, 1), 1);
        due("a unit beside that work", x.great(1, 4, 1), 2);
        x.promise(1);
        due("no room", x.great(14, 4, 1), 1 + 2 + 8);
        x.promise(2);
        due("less than none is none", x.great(10, 4, 1), 1);
        x.day();
        due("a day later", x.great(3, 1, 1), 1 + 4);
        due("bad: a day that was", x.great(1, 0, 0), BAD);
        int[][] bad = {{0, 5, 0}, {-1, 5, 0}, {100, 5, 0}, {1, 10, 0}, {1, -1, 0}, {1, 5, -1}, {1, 5, 2},
                {LOW, 5, 0}, {HIGH, 5, 0}, {1, LOW, 0}, {1, HIGH, 0}, {1, 5, LOW}, {1, 5, HIGH}, {99, 5, 2}};
        for (int[] b : bad) {
            due("great of a bad number", x.great(b[0], b[1], b[2]), BAD);
        }
        due("nothing is changed", x.now(4) + x.now(1), 1);
        passDays(x, 9);
        due("all is over", x.great(1, 9, 0), BAD);
        due("all is over: day 10", x.great(1, 10, 0), BAD);
    }

    private static void promise24Rate() {
        SleeveSlips x = told("person 2 3 0;person 5 1 0;ask 1 0 9 1 9;ask 1 0 8 1 9;");
        x.promise(0);
        x.promise(1);
        x.day();
        int[] first = {2, 5, 2, 10, 2, 3};
        int[] second = {3, 4, 3 - 16, 8, 3 - 16 + 1, 4};
        for (int kind = 0; kind < 6; kind++) {
            due("rate(" + kind + ", 0)", x.rate(kind, 0), first[kind]);
            due("rate(" + kind + ", 1)", x.rate(kind, 1), second[kind]);
        }
        for (int kind : new int[] {-1, 6, LOW, HIGH}) {
            due("rate(" + kind + ", 0)", x.rate(kind, 0), SleeveSlips.NO);
        }
        for (int p : new int[] {-1, 2, LOW, HIGH}) {
            due("rate(0, " + p + ")", x.rate(0, p), SleeveSlips.NO);
        }
    }

    private static void promise25Keep() {
        SleeveSlips x = told("person 2 1 0;ask 0 0 3 5 9;");
        due("keep(0)", x.keep(0), 0);
        x.promise(0);
        x.day();
        due("keep(1)", x.keep(1), 1);
        due("to the first", x.back(0), 0);
        due("as it was", x.asking(0, 5), 0);
        due("to the second", x.back(1), 1);
        due("as it was later", x.asking(0, 6), 2);
        x.day();
        due("kept anew", x.keep(0), 2);
        x.day();
        due("the newer one", x.back(0), 2);
        due("as it was then", x.asking(0, 6), 1);
        for (int image : new int[] {-1, 2, LOW, HIGH}) {
            due("keep(" + image + ")", x.keep(image), BAD);
        }
    }

    private static void promise26Back() {
        SleeveSlips x = told("person 3 1 0;person 1 1 0;ask 0 0 1 5 9;ask 0 0 3 6 9;ask 0 1 9 7 9;ask 0 0 2 8 0;");
        due("none was kept", x.back(0), STATE);
        x.promise(0);
        x.promise(3);
        x.promise(1);
        x.day();
        x.promise(2);
        x.hand(1, 1);
        x.keep(1);
        due("the other was not kept", x.back(0), STATE);
        x.undo();
        x.undo();
        x.breaks(1);
        x.sort(0, 3, 1, 1);
        x.rate(0, 0);
        enter(x, "abc");
        passDays(x, 9);
        due("back(1)", x.back(1), 1);
        due("the day", x.now(0), 1);
        due("won", x.now(1), 5);
        due("lost", x.now(2), 8);
        due("slips", x.now(3), 2);
        due("to undo", x.now(4), 2);
        due("slip of 0", x.slip(0, 0), 2);
        due("slip of 1", x.slip(1, 0), 1);
        due("left", x.asking(1, 6), 3);
        due("whose", x.asking(1, 7), 1);
        due("sorts are none of it", x.count(3), 3);
        due("the text is none of it", x.count(4), 3);
        due("the trace is none of it", x.trace(), 1);
        due("undone as then", x.undo(), 1);
        due("undone", x.asking(1, 7), 0);
        due("its place", x.slip(0, 0), 1);
        due("undone the other", x.undo(), 0);
        due("open", x.asking(2, 5), 0);
        due("the image is as it was", x.back(1), 1);
        due("to undo again", x.now(4), 2);
        for (int image : new int[] {-1, 2, LOW, HIGH}) {
            due("back(" + image + ")", x.back(image), BAD);
        }
    }

    private static void promise27Count() {
        SleeveSlips x = told("person 2 1 0;person 2 1 0;ask 0 0 1 5 9;ask 0 0 3 6 9;ask 0 1 9 7 9;hangs 0 1;");
        x.sort(1, 7, 1, 1);
        enter(x, "ask a");
        due("people", x.count(0), 2);
        due("askings", x.count(1), 3);
        due("hangs", x.count(2), 1);
        due("tenths", x.count(3), 7);
        due("bytes", x.count(4), 5);
        passDays(x, 10);
        due("askings stay", x.count(1), 3);
        for (int what : new int[] {-1, 5, LOW, HIGH}) {
            due("count(" + what + ")", x.count(what), BAD);
        }
    }

    private static void promise28Trace() {
        long[] added = {1, 11, 101, 1011, 10101, 100001};
        SleeveSlips x = told("person 2 1 0;");
        long all = 0;
        for (int kind = 0; kind < 6; kind++) {
            x.rate(kind, 0);
            all += added[kind];
            due("trace() behind kind " + kind, x.trace(), all);
        }
        x.rate(6, 0);
        x.rate(-1, 0);
        x.rate(0, 1);
        x.rate(5, -1);
        due("refused ones add nothing", x.trace(), all);
        x.keep(0);
        x.rate(0, 0);
        x.back(0);
        due("an image is not of it", x.trace(), all + 1);
    }
}
