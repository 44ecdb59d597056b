/** The boundary cases of the promises 6 to 10: the pad, its fault, and the rolls that are read from it. */
public final class TextEdgesTest extends Edges {
    /** 59 characters, 20 deeds of two characters each: the most that a pad can hold. */
    private static final String TWENTY_DEEDS = "d0;h1;d1;h2;d2;h3;d3;h4;d4;h5;d5;h6;d6;h7;d7;h8;d8;h9;d9;d0";
    /** 55 characters, 7 founders. */
    private static final String SEVEN_FOUNDERS
        = "f000000;f100000;f200000;f300000;f400000;f010000;f020000";

    public static void main(String[] args) {
        runAll(TextEdgesTest.class, 6, 10);
    }

    // ---- promise 6

    static void p06Codes() {
        sentence("`code`: the character code, 33 to 126");
        SonMarks x = new SonMarks();
        int[] wrong = {LEAST, -1, 0, 10, 31, 32, 127, 128, 255, 256 + 102, 65536 + 102, MOST};
        for (int code : wrong) {
            due("append(" + code + ")", x.append(code), BAD);
            due("count(10)", x.count(10), 0);
        }
        int[] right = {33, 34, 102, 125, 126};
        for (int i = 0; i < right.length; i++) {
            due("append(" + right[i] + ")", x.append(right[i]), i + 1);
        }
        due("append(32)", x.append(32), BAD);
        due("append(127)", x.append(127), BAD);
        due("count(10)", x.count(10), 5);
    }

    static void p06AllCodes() {
        sentence("`code`: the character code, 33 to 126");
        for (int code = -200; code <= 400; code++) {
            SonMarks x = new SonMarks();
            due("append(" + code + ")", x.append(code), code < 33 || code > 126 ? BAD : 1);
        }
    }

    static void p06SixtyCharacters() {
        sentence("LIMIT_REACHED if it has 60 characters.");
        SonMarks x = new SonMarks();
        for (int i = 1; i <= 60; i++) {
            due("append(48) as number " + i, x.append(48), i);
        }
        due("append(48) as number 61", x.append(48), LIMIT);
        due("append(126) as number 61", x.append(126), LIMIT);
        due("count(10)", x.count(10), 60);
        due("clear()", x.clear(), 60);
        due("append(48) after clear()", x.append(48), 1);
    }

    static void p06SixtyOfADeed() {
        sentence("A call that returns an error changes nothing (the pad stays, too).");
        SonMarks x = new SonMarks();
        write(x, SEVEN_FOUNDERS + ";d0;");
        due("append(d) as number 60", x.append('d'), 60);
        due("append(1) as number 61", x.append('1'), LIMIT);
        due("fault()", x.fault(), 60);
        due("clear()", x.clear(), 60);
        write(x, SEVEN_FOUNDERS + ";d1");
        due("append(9) as number 59", x.append('9'), 59);
        due("fault()", x.fault(), NONE);
        due("append(;) as number 60", x.append(';'), 60);
        due("append(d) as number 61", x.append('d'), LIMIT);
        due("append(33) as number 61", x.append('!'), LIMIT);
        due("fault()", x.fault(), 60);
    }

    static void p06InvalidRatherThanLimit() {
        sentence("INVALID_ARGUMENT is returned rather than NOT_POSSIBLE, NOT_POSSIBLE rather than LIMIT_REACHED");
        SonMarks x = new SonMarks();
        for (int i = 0; i < 60; i++) {
            x.append('f');
        }
        due("append(32)", x.append(32), BAD);
        due("append(33)", x.append(33), LIMIT);
        due("append(126)", x.append(126), LIMIT);
        due("append(127)", x.append(127), BAD);
    }

    static void p06NoChange() {
        sentence("The changes are the calls of found, bear, die, inherit, enrol and restore that return no error");
        SonMarks x = roll("f000000");
        due("append(102)", x.append(102), 1);
        due("count(11)", x.count(11), 1);
        due("clear()", x.clear(), 1);
        due("count(11)", x.count(11), 1);
    }

    // ---- promise 7

    static void p07LengthThatItHad() {
        sentence("Returns the length that it had.");
        SonMarks x = new SonMarks();
        due("clear() of none", x.clear(), 0);
        due("clear() of none again", x.clear(), 0);
        for (int length = 1; length <= 60; length += length == 1 ? 58 : 1) {
            for (int i = 0; i < length; i++) {
                x.append('x');
            }
            due("count(10)", x.count(10), length);
            due("clear() of " + length, x.clear(), length);
            due("count(10) after it", x.count(10), 0);
            due("clear() after it", x.clear(), 0);
        }
    }

    static void p07Empties() {
        sentence("Empties the pad.");
        SonMarks x = new SonMarks();
        write(x, "f00000x");
        due("fault()", x.fault(), 6);
        due("clear()", x.clear(), 7);
        due("fault()", x.fault(), 0);
        due("enrol()", x.enrol(), NOT_POSSIBLE);
        due("append(102)", x.append('f'), 1);
        due("fault(), nothing of before is left", x.fault(), 1);
    }

    static void p07AfterEnrol() {
        sentence("Returns the length that it had.");
        SonMarks x = roll("f000000");
        due("clear() after an enrol()", x.clear(), 0);
        write(x, "d5");
        due("enrol() of an error", x.enrol(), 0);
        due("clear() after an enrol() that did nothing", x.clear(), 0);
        write(x, "d");
        due("enrol() of a fault", x.enrol(), NOT_POSSIBLE);
        due("clear() after an enrol() that was an error", x.clear(), 1);
    }

    // ---- promise 8

    /**
     * A text that has no fault in its characters, and the characters after which it is complete, or may
     * go on; each other one from 33 to 126 is wrong.
     */
    private static void after(String text, String completing, String going) {
        SonMarks whole = new SonMarks();
        write(whole, text);
        boolean complete = going.indexOf(';') >= 0;
        due("fault() of " + text, whole.fault(), complete ? NONE : text.length());
        for (int code = 33; code <= 126; code++) {
            SonMarks x = new SonMarks();
            write(x, text);
            x.append(code);
            int want = text.length();
            if (completing.indexOf(code) >= 0) {
                want = NONE;
            } else if (going.indexOf(code) >= 0) {
                want = text.length() + 1;
            }
            due("fault() of " + text + (char) code, x.fault(), want);
        }
    }

    static void p08FirstCharacter() {
        sentence("A roll is one or more deeds with \";\" between two");
        after("", "", "fsdh");
        after("f000000;", "", "fsdh");
        after("s0.0=0;", "", "fsdh");
        after("d0;", "", "fsdh");
        after("h1;", "", "fsdh");
        after("h19;", "", "fsdh");
    }

    static void p08SixDigits() {
        sentence("\"f\" and six digits 0 to 4");
        after("f", "", "01234");
        after("f4", "", "01234");
        after("f40", "", "01234");
        after("f404", "", "01234");
        after("f4040", "", "01234");
        after("f40404", "01234", "");
        after("f404040", "", ";");
    }

    static void p08NumberOfTheFather() {
        sentence("\"s\", a number 0 to 19 (the father), \".\"");
        after("s", "", "0123456789");
        for (int number = 0; number <= 19; number++) {
            after("s" + number, "", number == 1 ? ".0123456789" : ".");
        }
    }

    static void p08PlaceAndMark() {
        sentence("a digit 0 to 5 (a place), \"=\", and a digit 0 to 4 (the mark)");
        after("s0.", "", "012345");
        after("s1.", "", "012345");
        after("s19.", "", "012345");
        after("s0.0", "", "=");
        after("s10.5", "", "=");
        after("s0.0=", "01234", "");
        after("s10.5=", "01234", "");
        after("s0.0=0", "", ";");
        after("s10.5=4", "", ";");
    }

    static void p08NumberOfThePerson() {
        sentence("\"d\" and a number 0 to 19 (this person dies); \"h\" and a number 0 to 19");
        String[] letters = {"d", "h"};
        for (String letter : letters) {
            after(letter, "0123456789", "");
            for (int number = 0; number <= 19; number++) {
                after(letter + number, number == 1 ? "0123456789" : "", ";");
            }
        }
    }

    static void p08NeedlessZero() {
        sentence("Numbers have no needless 0 ahead.");
        fault("d0", NONE);
        fault("d00", 2);
        fault("d01", 2);
        fault("d1", NONE);
        fault("h010", 2);
        fault("s00.0=0", 2);
        fault("s01.0=0", 2);
        fault("s0.00=0", 4);
        fault("s0.0=00", 6);
        fault("s0.0=0", NONE);
    }

    static void p08NumbersAbove19() {
        sentence("a number 0 to 19");
        fault("d18", NONE);
        fault("d19", NONE);
        fault("d20", 2);
        fault("h2", NONE);
        fault("h20", 2);
        fault("d99", 2);
        fault("d190", 3);
        fault("s19.0=0", NONE);
        fault("s20.0=0", 2);
        fault("s100.0=0", 3);
    }

    static void p08NotComplete() {
        sentence("if there is none, and the pad is not complete (also if it is empty), the length of the pad");
        String text = "f000000;s10.0=1;d1;h19";
        String complete = ".......c.......c..c..cc";
        for (int length = 0; length <= text.length(); length++) {
            fault(text.substring(0, length), complete.charAt(length) == 'c' ? NONE : length);
        }
    }

    static void p08FirstOfSeveral() {
        sentence("the position, from 0, of the first character that is wrong");
        fault("xf000000", 0);
        fault("x;x", 0);
        fault(";f000000", 0);
        fault("f5x", 1);
        fault("f000000,f000000;", 7);
        fault("f000000;x;d", 8);
        fault("d0;d0;d0d0;;", 8);
        fault("s0.6=5", 3);
        fault("s0.5=5;", 5);
    }

    static void p08OfAnyLength() {
        sentence("no roll, of any length, begins with the characters before it and this character");
        fault(SEVEN_FOUNDERS + ";f00", 59);
        fault(SEVEN_FOUNDERS + ";f000", 60);
        fault(SEVEN_FOUNDERS + ";d0", NONE);
        fault(SEVEN_FOUNDERS + ";d10", NONE);
        fault(SEVEN_FOUNDERS + ";d10;", 60);
        fault(SEVEN_FOUNDERS + ";d0;", 59);
        fault(SEVEN_FOUNDERS + ";d0;s", 60);
        fault(SEVEN_FOUNDERS + ";d0;f", 60);
        fault(SEVEN_FOUNDERS + ";d0;x", 59);
        fault(SEVEN_FOUNDERS + ";s1.5", 60);
        fault(SEVEN_FOUNDERS + ";s1.6", 59);
        fault(SEVEN_FOUNDERS + ";s2.5", 60);
        fault(SEVEN_FOUNDERS + ";s20.", 58);
        fault(TWENTY_DEEDS, NONE);
        fault(TWENTY_DEEDS + ";", 60);
        fault(TWENTY_DEEDS + "0", 59);
    }

    static void p08NoPersonsAreAskedFor() {
        sentence("NOT_FOUND if it has none");
        fault("s19.5=4;d19;h19", NONE);
        fault("d0;d0;d0", NONE);
        fault("f000000;f000000", NONE);
    }

    static void p08NothingIsChanged() {
        sentence("Returns the fault of the pad.");
        SonMarks x = new SonMarks();
        write(x, "f000000");
        due("fault()", x.fault(), NONE);
        due("fault() again", x.fault(), NONE);
        due("count(0)", x.count(0), 0);
        due("count(10)", x.count(10), 7);
        write(x, "!");
        due("fault()", x.fault(), 7);
        due("fault() again", x.fault(), 7);
        due("count(10)", x.count(10), 8);
    }

    private static void fault(String text, int want) {
        SonMarks x = new SonMarks();
        write(x, text);
        due("fault() of " + text, x.fault(), want);
        due("count(10)", x.count(10), text.length());
        if (want != NONE) {
            due("enrol() of " + text, x.enrol(), NOT_POSSIBLE);
            due("count(10) after it", x.count(10), text.length());
        }
    }

    // ---- promise 9

    static void p09PadWithAFault() {
        sentence("NOT_POSSIBLE if the pad has a fault.");
        SonMarks x = roll("f000000");
        due("enrol() of nothing", x.enrol(), NOT_POSSIBLE);
        write(x, "d0;f11111");
        due("enrol(), a character is missing", x.enrol(), NOT_POSSIBLE);
        due("count(1)", x.count(1), 1);
        due("count(10)", x.count(10), 9);
        due("count(11)", x.count(11), 1);
        due("append(1)", x.append('1'), 10);
        due("enrol(), complete", x.enrol(), 2);
        write(x, "d1x");
        due("enrol(), a wrong character", x.enrol(), NOT_POSSIBLE);
        due("count(10)", x.count(10), 3);
        due("count(1)", x.count(1), 1);
        due("clear()", x.clear(), 3);
        due("enrol() of nothing again", x.enrol(), NOT_POSSIBLE);
        due("count(11)", x.count(11), 2);
    }

    static void p09OneDeed() {
        sentence("Returns how many are done");
        SonMarks x = new SonMarks();
        enrols(x, "f444444", 1);
        due("person(0, 0)", x.person(0, 0), 15624);
        enrols(x, "f444443", 1);
        due("person(1, 0)", x.person(1, 0), 15624 - 3125);
        enrols(x, "f344444", 1);
        due("person(2, 0)", x.person(2, 0), 15623);
        enrols(x, "s2.5=0", 1);
        due("person(3, 0)", x.person(3, 0), 15623 - 4 * 3125);
        due("person(3, 2)", x.person(3, 2), 2);
        due("person(3, 3)", x.person(3, 3), 5);
        due("person(3, 4)", x.person(3, 4), 0);
        enrols(x, "d2", 1);
        due("person(2, 1)", x.person(2, 1), 0);
        enrols(x, "h3", 1);
        due("person(3, 0)", x.person(3, 0), 15623);
    }

    static void p09MarksFromPlaceZeroOn() {
        sentence("a founder with these marks, from the place 0 on");
        SonMarks x = roll("f012340");
        due("person(0, 0)", x.person(0, 0), 5 + 2 * 25 + 3 * 125 + 4 * 625);
        SonMarks y = roll("f100000;f000001");
        due("person(0, 0)", y.person(0, 0), 1);
        due("person(1, 0)", y.person(1, 0), 3125);
    }

    static void p09TwentyDeeds() {
        sentence("Enrols the deeds of the pad, one after the other, as the methods do");
        SonMarks x = chain(11);
        enrols(x, "d10;" + TWENTY_DEEDS.substring(0, 56), 20);
        due("why(0)", x.why(0), NONE);
        due("count(1)", x.count(1), 0);
        due("count(8)", x.count(8), 9);
        due("count(11)", x.count(11), 4);
        due("undo()", x.undo(), 3);
        due("count(1)", x.count(1), 11);
        due("count(8)", x.count(8), 0);
    }

    static void p09TwoDigits() {
        sentence("a number 0 to 19");
        SonMarks x = founders(18);
        enrols(x, "s9.5=1;s10.5=1", 2);
        due("person(18, 2)", x.person(18, 2), 9);
        due("person(19, 2)", x.person(19, 2), 10);
        enrols(x, "d9;d10;d19;d1;d0", 5);
        int[] dead = {0, 1, 9, 10, 19};
        for (int i = 0, next = 0; i < 20; i++) {
            boolean gone = next < 5 && dead[next] == i;
            next += gone ? 1 : 0;
            due("person(" + i + ", 1)", x.person(i, 1), gone ? 0 : 1);
        }
        enrols(x, "h18", 1);
        due("person(18, 0)", x.person(18, 0), 9 * 31);
        enrols(x, "s18.4=4", 0);
        due("why(0)", x.why(0), LIMIT);
    }

    static void p09UpToTheFirstThatIsRefused() {
        sentence("up to the first one that is refused (which is counted) or returns an error, and empties the pad");
        SonMarks x = new SonMarks();
        enrols(x, "f000000;f100000;f000000;f200000;f000000", 2);
        due("count(0), the later ones are left", x.count(0), 2);
        due("count(9), one is counted", x.count(9), 1);
        due("count(10)", x.count(10), 0);
        due("bearer(2)", x.bearer(2), NONE);
        enrols(x, "d1;d1;d0", 1);
        due("count(1)", x.count(1), 1);
        due("count(9)", x.count(9), 2);
    }

    static void p09UpToTheFirstError() {
        sentence("up to the first one that is refused (which is counted) or returns an error, and empties the pad");
        SonMarks x = new SonMarks();
        enrols(x, "f000000;d1;f100000", 1);
        due("count(0), the later one is left", x.count(0), 1);
        due("count(9), an error is not counted", x.count(9), 0);
        due("count(10)", x.count(10), 0);
        due("count(11)", x.count(11), 1);
        enrols(x, "d0;h0;f100000", 1);
        due("count(0)", x.count(0), 1);
        due("count(9)", x.count(9), 0);
    }

    static void p09FirstOrLastIsRefused() {
        sentence("Returns how many are done");
        SonMarks x = roll("f000000");
        enrols(x, "f000000", 0);
        enrols(x, "f000000;d0", 0);
        due("person(0, 1)", x.person(0, 1), 1);
        enrols(x, "d0;f000000;d1;d1", 3);
        due("count(9)", x.count(9), 3);
    }

    static void p09TwentyPersons() {
        sentence("There are at most 20 persons");
        SonMarks x = founders(18);
        enrols(x, "f444444;s0.5=4;s0.5=3;d0", 2);
        due("why(0)", x.why(0), LIMIT);
        due("count(0)", x.count(0), 20);
        due("person(0, 1)", x.person(0, 1), 1);
        enrols(x, "f444444;d0", 0);
        due("why(0)", x.why(0), LIMIT);
        enrols(x, "s0.0=0;d0", 0);
        due("why(0), an error rather than a reason", x.why(0), LIMIT);
        enrols(x, "s19.5=0;d0", 0);
        due("why(0), the last person as a father", x.why(0), LIMIT);
        due("count(9)", x.count(9), 0);
    }

    static void p09OneChange() {
        sentence("This is one change, also if none is done.");
        SonMarks x = new SonMarks();
        enrols(x, "f000000;s0.0=1;s0.1=1;d0;h1", 5);
        due("count(11)", x.count(11), 1);
        enrols(x, "d0", 0);
        due("count(11), the first one is refused", x.count(11), 2);
        enrols(x, "d19", 0);
        due("count(11), the first one is an error", x.count(11), 3);
        due("undo()", x.undo(), 2);
        due("count(9)", x.count(9), 1);
        due("undo()", x.undo(), 1);
        due("count(9)", x.count(9), 0);
        due("count(0)", x.count(0), 3);
        due("undo()", x.undo(), 0);
        due("count(0)", x.count(0), 0);
        due("count(8)", x.count(8), 0);
        due("undo()", x.undo(), NOT_POSSIBLE);
    }

    static void p09FifthState() {
        sentence("if there are 5 states then, the oldest one is dropped");
        SonMarks x = new SonMarks();
        for (int i = 0; i < 5; i++) {
            enrols(x, "f" + i + "00000", 1);
            due("count(11)", x.count(11), Math.min(4, i + 1));
        }
        for (int i = 3; i >= 0; i--) {
            due("undo()", x.undo(), i);
            due("count(0)", x.count(0), i + 1);
        }
        due("undo()", x.undo(), NOT_POSSIBLE);
    }

    // ---- promise 10

    static void p10What() {
        sentence("`what`: 0: the reason, or the error; 1: its number among the deeds, from 0; 2: the position");
        SonMarks x = new SonMarks();
        int[] wrong = {LEAST, -1, 3, 4, MOST};
        for (int what : wrong) {
            due("why(" + what + "), no call of enrol()", x.why(what), BAD);
        }
        enrols(x, "f000000;d0;d0", 2);
        for (int what : wrong) {
            due("why(" + what + "), stopped", x.why(what), BAD);
        }
        stopped(x, 6, 2, 11);
        enrols(x, "f000000", 1);
        for (int what : wrong) {
            due("why(" + what + "), all were done", x.why(what), BAD);
        }
        stopped(x, NONE, NONE, NONE);
    }

    static void p10NoSuchCall() {
        sentence("NOT_FOUND if there was no such call, or all its deeds were done.");
        SonMarks x = new SonMarks();
        stopped(x, NONE, NONE, NONE);
        due("enrol() of nothing", x.enrol(), NOT_POSSIBLE);
        stopped(x, NONE, NONE, NONE);
        due("found(0)", x.found(0), 10);
        due("found(0), refused", x.found(0), 3);
        due("die(7), an error", x.die(7), BAD);
        stopped(x, NONE, NONE, NONE);
        enrols(x, "d0", 1);
        stopped(x, NONE, NONE, NONE);
        enrols(x, "d0", 0);
        stopped(x, 6, 0, 0);
        enrols(x, "f000000", 1);
        stopped(x, NONE, NONE, NONE);
    }

    static void p10EachReason() {
        sentence("0: the reason, or the error");
        SonMarks x = roll("f000000;s0.0=1;s0.1=1;s1.2=1;s1.3=1;s1.4=1;s1.5=1", "s2.0=2");
        stops(x, "s1.0=1", 2);
        stops(x, "s1.0=0", 3);
        stops(x, "s1.0=2", 4);
        stops(x, "s1.1=2", 5);
        stops(x, "f000000", 3);
        stops(x, "h0", 7);
        stops(x, "h1", 7);
        enrols(x, "d0", 1);
        stops(x, "d0", 6);
        stops(x, "s0.5=1", 1);
        stops(x, "h2", 8);
        enrols(x, "h1", 1);
        stops(x, "h1", 3);
        due("count(9)", x.count(9), 11);
        stops(x, "h0", NOT_POSSIBLE);
        stops(x, "d8", BAD);
        stops(x, "h8", BAD);
        stops(x, "s8.0=1", BAD);
        stops(founders(20), "f444444", LIMIT);
        stops(founders(20), "s0.5=4", LIMIT);
    }

    private static void stops(SonMarks x, String text, int answer) {
        enrols(x, text, 0);
        stopped(x, answer, 0, 0);
    }

    static void p10LastOfTwentyDeeds() {
        sentence("1: its number among the deeds, from 0; 2: the position of its letter in the pad");
        SonMarks x = chain(10);
        enrols(x, TWENTY_DEEDS, 19);
        stopped(x, 6, 19, 57);
        SonMarks y = chain(11);
        enrols(y, "d10;" + TWENTY_DEEDS.substring(0, 55) + "8", 19);
        stopped(y, 6, 19, 58);
        SonMarks z = chain(10);
        enrols(z, TWENTY_DEEDS.substring(0, 56), 19);
        stopped(z, NONE, NONE, NONE);
    }

    static void p10FirstAndSecondDeed() {
        sentence("1: its number among the deeds, from 0; 2: the position of its letter in the pad");
        SonMarks x = new SonMarks();
        enrols(x, "d0;f000000", 0);
        stopped(x, BAD, 0, 0);
        enrols(x, "f000000;d1;d0", 1);
        stopped(x, BAD, 1, 8);
        enrols(x, "d0;d0;d0", 1);
        stopped(x, 6, 1, 3);
        enrols(x, "f000000;s1.0=1;s1.0=1", 2);
        stopped(x, 3, 2, 15);
    }

    static void p10LatestCallWithoutError() {
        sentence("the latest call of enrol() that returned no error");
        SonMarks x = new SonMarks();
        enrols(x, "f000000;f000000", 1);
        stopped(x, 3, 1, 8);
        due("enrol() of nothing", x.enrol(), NOT_POSSIBLE);
        write(x, "d0;d");
        due("enrol() of a fault", x.enrol(), NOT_POSSIBLE);
        stopped(x, 3, 1, 8);
        due("clear()", x.clear(), 4);
        stopped(x, 3, 1, 8);
        enrols(x, "h0", 0);
        stopped(x, 7, 0, 0);
        due("die(0)", x.die(0), 10);
        stopped(x, 7, 0, 0);
    }

    static void p10NotUndoneNorRestored() {
        sentence("This is not a part of what is undone, or restored.");
        SonMarks x = new SonMarks();
        due("save()", x.save(), 0);
        enrols(x, "f000000;f000000", 1);
        due("undo()", x.undo(), 0);
        due("count(9)", x.count(9), 0);
        stopped(x, 3, 1, 8);
        due("restore()", x.restore(), 0);
        stopped(x, 3, 1, 8);
        due("save()", x.save(), 0);
        enrols(x, "f000000", 1);
        due("undo()", x.undo(), 1);
        stopped(x, NONE, NONE, NONE);
        due("restore()", x.restore(), 0);
        stopped(x, NONE, NONE, NONE);
    }

    private static void stopped(SonMarks x, int answer, int deed, int position) {
        due("why(0)", x.why(0), answer);
        due("why(1)", x.why(1), deed);
        due("why(2)", x.why(2), position);
    }
}
