/** Each promise of the document with answers told by hand: ordinary inputs, edges, wrong inputs. */
public final class PromiseTest {
    private static final int BAD = -1;
    private static final int NOT_POSSIBLE = -2;
    private static final int LIMIT = -3;
    private static final int NONE = -4;
    private static final int[] NO_PERSONS = {-1, Integer.MIN_VALUE, 20, 19, Integer.MAX_VALUE};
    private static final int[] NO_PLACES = {-1, Integer.MIN_VALUE, 6, Integer.MAX_VALUE};
    private static final int[] NO_MARKS = {-1, Integer.MIN_VALUE, 5, Integer.MAX_VALUE};
    private static final int[] NO_SHIELDS = {-1, Integer.MIN_VALUE, 15625, Integer.MAX_VALUE};
    private static final Dues dues = new Dues();
    private static String now = "";

    public static void main(String[] args) {
        newObject();
        founders();
        sons();
        deaths();
        heirs();
        appending();
        clearing();
        faults();
        enrolling();
        reasonsOfStops();
        propertiesOfPersons();
        marks();
        whyNotBorn();
        choicesLeft();
        choicesAfterCousins();
        bestChanges();
        differences();
        nearness();
        bearers();
        lines();
        linesRoundWalls();
        counts();
        marksBorne();
        unlikeness();
        ifSomeoneDied();
        undoing();
        saving();
        restoring();
        dues.end();
    }

    private static void due(String call, long got, long want) {
        dues.due(now + ": " + call, got, want);
    }

    /** Appends a text to the pad. */
    private static void write(SonMarks x, String text) {
        for (int i = 0; i < text.length(); i++) {
            x.append(text.charAt(i));
        }
    }

    /** A new object with the deeds of these texts, which must all be done. */
    private static SonMarks made(String... rolls) {
        SonMarks x = new SonMarks();
        for (String roll : rolls) {
            write(x, roll);
            due("enrol() of " + roll, x.enrol(), roll.split(";").length);
        }
        return x;
    }

    /** 20 founders with the shields from 0 on, a place of two steps apart from one another or less. */
    private static SonMarks fullRoll() {
        SonMarks x = new SonMarks();
        for (int i = 0; i < 20; i++) {
            due("found(" + i * 31 + ")", x.found(i * 31), 10 + i);
        }
        return x;
    }

    private static void newObject() {
        now = "1 new";
        SonMarks x = new SonMarks();
        for (int what = 0; what <= 11; what++) {
            due("count(" + what + ")", x.count(what), 0);
        }
        due("person(0, 0)", x.person(0, 0), BAD);
        due("bearer(0)", x.bearer(0), NONE);
        due("fault()", x.fault(), 0);
        due("why(0)", x.why(0), NONE);
        due("undo()", x.undo(), NOT_POSSIBLE);
        due("restore()", x.restore(), NOT_POSSIBLE);
        dues.dueDouble("1: unlike()", x.unlike(), 0.0);
        SonMarks y = new SonMarks();
        due("found(7)", x.found(7), 10);
        due("another one's count(0)", y.count(0), 0);
        due("INVALID_ARGUMENT", SonMarks.INVALID_ARGUMENT, BAD);
        due("NOT_POSSIBLE", SonMarks.NOT_POSSIBLE, NOT_POSSIBLE);
        due("LIMIT_REACHED", SonMarks.LIMIT_REACHED, LIMIT);
        due("NOT_FOUND", SonMarks.NOT_FOUND, NONE);
    }

    private static void founders() {
        now = "2 found";
        SonMarks x = new SonMarks();
        due("found(0)", x.found(0), 10);
        due("found(15624)", x.found(15624), 11);
        due("person(1, 0)", x.person(1, 0), 15624);
        due("person(1, 1)", x.person(1, 1), 1);
        due("person(1, 2)", x.person(1, 2), NONE);
        for (int shield : NO_SHIELDS) {
            due("found(" + shield + ")", x.found(shield), BAD);
        }
        due("count(11) after errors", x.count(11), 2);
        due("found(0) borne", x.found(0), 3);
        due("count(0) after a refusal", x.count(0), 2);
        due("count(9) after a refusal", x.count(9), 1);
        due("count(11) after a refusal", x.count(11), 3);
        due("die(0)", x.die(0), 11);
        due("found(0) of a dead one", x.found(0), 12);

        SonMarks full = fullRoll();
        due("found(15624) as the 21st", full.found(15624), LIMIT);
        due("found(0) as the 21st, borne", full.found(0), LIMIT);
        due("found(15625) as the 21st", full.found(15625), BAD);
        due("count(9)", full.count(9), 0);
        due("count(11)", full.count(11), 4);
        due("die(3)", full.die(3), 29);
        due("found(15624) with a dead one", full.found(15624), LIMIT);
    }

    private static void sons() {
        now = "3 bear";
        SonMarks x = made("f000000", "s0.0=1;s0.1=1;s0.2=1");
        due("bear(0, 5, 4)", x.bear(0, 5, 4), 14);
        due("person(4, 0)", x.person(4, 0), 12500);
        due("person(4, 2)", x.person(4, 2), 0);
        due("person(4, 3)", x.person(4, 3), 5);
        due("person(4, 4)", x.person(4, 4), 4);
        due("bear(0, 5, 3), a fifth", x.bear(0, 5, 3), 5);
        due("bear(0, 5, 4), borne, a fifth", x.bear(0, 5, 4), 3);
        due("bear(0, 5, 0), there, a fifth", x.bear(0, 5, 0), 2);
        due("bear(1, 3, 2)", x.bear(1, 3, 2), 15);
        due("bear(2, 3, 2), as a cousin", x.bear(2, 3, 2), 4);
        due("bear(2, 3, 4), as a cousin, with another mark", x.bear(2, 3, 4), 4);
        due("bear(1, 3, 4), as a brother", x.bear(1, 3, 4), 16);
        due("bear(2, 3, 0), as a cousin, but there", x.bear(2, 3, 0), 2);
        due("found(255), like a son of 2", x.found(255), 17);
        due("bear(2, 3, 2), as a cousin, but borne", x.bear(2, 3, 2), 3);
        due("die(5)", x.die(5), 17);
        due("bear(2, 3, 3), as a living cousin still", x.bear(2, 3, 3), 4);
        due("die(6)", x.die(6), 16);
        due("bear(2, 3, 3), as dead cousins", x.bear(2, 3, 3), 18);
        due("bear(1, 3, 1), now the other way", x.bear(1, 3, 1), 4);
        due("die(1)", x.die(1), 16);
        due("bear(1, 3, 1), of a dead one", x.bear(1, 3, 1), 1);
        due("bear(1, 0, 1), of a dead one, there", x.bear(1, 0, 1), 1);
        due("bear(4, 3, 1)", x.bear(4, 3, 1), 4);
        due("bear(5, 0, 0) of a dead one", x.bear(5, 0, 0), 1);
        due("count(9)", x.count(9), 13);
        int states = x.count(11);
        for (int father : NO_PERSONS) {
            due("bear(" + father + ", 0, 2)", x.bear(father, 0, 2), BAD);
        }
        for (int place : NO_PLACES) {
            due("bear(0, " + place + ", 2)", x.bear(0, place, 2), BAD);
        }
        for (int mark : NO_MARKS) {
            due("bear(0, 0, " + mark + ")", x.bear(0, 0, mark), BAD);
        }
        due("count(9) after errors", x.count(9), 13);
        due("count(11) after errors", x.count(11), states);
        due("undo()", x.undo(), 3);
        due("count(9) after undo", x.count(9), 12);
        sonsOfDeadUncles();
        sonsOfFullRolls();
    }

    private static void sonsOfDeadUncles() {
        SonMarks x = made("f000000;s0.0=1;s0.1=1;s1.2=1;d1;d0");
        due("bear(2, 2, 2), a dead uncle's son lives", x.bear(2, 2, 2), 4);
        due("bear(2, 3, 2)", x.bear(2, 3, 2), 14);
        due("bear(3, 3, 3), an uncle's son is no cousin", x.bear(3, 3, 3), 15);
        SonMarks y = made("f000000;f111111;s0.0=2;s1.0=3");
        due("founders are no brothers: bear(1, 0, 4)", y.bear(1, 0, 4), 14);
        SonMarks z = made("f000000;s0.0=1;s0.1=1;s0.2=1;s0.3=1");
        due("four sons, bear(1, 0, 2)", z.bear(1, 0, 2), 15);
        due("die(1)", z.die(1), 15);
        due("dead sons count: bear(0, 4, 1)", z.bear(0, 4, 1), 5);
    }

    private static void sonsOfFullRolls() {
        SonMarks full = fullRoll();
        due("bear(0, 5, 4) as the 21st", full.bear(0, 5, 4), LIMIT);
        due("bear(0, 0, 0) as the 21st, there", full.bear(0, 0, 0), LIMIT);
        due("bear(20, 0, 0) as the 21st", full.bear(20, 0, 0), BAD);
        due("bear(19, 6, 0) as the 21st", full.bear(19, 6, 0), BAD);
        due("count(9)", full.count(9), 0);
    }

    private static void deaths() {
        now = "4 die";
        SonMarks x = made("f000000;f000001");
        due("die(0)", x.die(0), 11);
        due("person(0, 1)", x.person(0, 1), 0);
        due("person(1, 1)", x.person(1, 1), 1);
        due("person(0, 0) stays", x.person(0, 0), 0);
        due("die(0) again", x.die(0), 6);
        due("count(9)", x.count(9), 1);
        due("count(0)", x.count(0), 2);
        int states = x.count(11);
        due("die(2)", x.die(2), BAD);
        for (int person : NO_PERSONS) {
            due("die(" + person + ")", x.die(person), BAD);
        }
        due("count(11)", x.count(11), states);
        due("die(1)", x.die(1), 10);
        due("count(1)", x.count(1), 0);
    }

    private static void heirs() {
        now = "5 inherit";
        SonMarks x = made("f000000;s0.0=1;s0.1=1;s1.2=3;s1.4=4");
        due("inherit(0), a founder", x.inherit(0), 7);
        due("inherit(1), the father lives", x.inherit(1), 7);
        due("inherit(2), the father lives, the brother too", x.inherit(2), 7);
        due("die(0)", x.die(0), 14);
        due("inherit(2), an elder one lives", x.inherit(2), 8);
        due("count(8)", x.count(8), 0);
        due("inherit(1)", x.inherit(1), 11);
        due("person(1, 0)", x.person(1, 0), 0);
        due("person(3, 0) is as before", x.person(3, 0), 76);
        due("count(8)", x.count(8), 1);
        due("inherit(1) again", x.inherit(1), 3);
        due("count(8)", x.count(8), 1);
        due("inherit(2), an elder one lives, the shield is borne", x.inherit(2), 8);
        due("die(1)", x.die(1), 13);
        due("inherit(1), dead", x.inherit(1), NOT_POSSIBLE);
        due("inherit(0), a dead founder", x.inherit(0), NOT_POSSIBLE);
        due("inherit(3), what the father bore last", x.inherit(3), 12);
        due("inherit(2), the nephew bears it", x.inherit(2), 3);
        due("die(3)", x.die(3), 12);
        due("inherit(4), the elder brother is dead", x.inherit(4), 12);
        due("person(4, 0)", x.person(4, 0), 0);
        due("person(4, 3) stays", x.person(4, 3), 4);
        due("person(4, 4) stays", x.person(4, 4), 4);
        due("count(8)", x.count(8), 3);
        due("count(9)", x.count(9), 7);
        int states = x.count(11);
        for (int person : NO_PERSONS) {
            due("inherit(" + person + ")", x.inherit(person), BAD);
        }
        due("inherit(0)", x.inherit(0), NOT_POSSIBLE);
        due("count(9)", x.count(9), 7);
        due("count(11)", x.count(11), states);
        SonMarks y = made("f000000;s0.0=1;d0;f000000");
        due("inherit(1), a founder bears it", y.inherit(1), 3);
    }

    private static void appending() {
        now = "6 append";
        SonMarks x = new SonMarks();
        int[] none = {32, 127, 0, -1, 160, Integer.MIN_VALUE, Integer.MAX_VALUE};
        for (int code : none) {
            due("append(" + code + ")", x.append(code), BAD);
        }
        due("count(10)", x.count(10), 0);
        due("append(33)", x.append(33), 1);
        due("append(126)", x.append(126), 2);
        for (int i = 3; i <= 60; i++) {
            due("append(102) as number " + i, x.append(102), i);
        }
        due("append(102) as number 61", x.append(102), LIMIT);
        due("append(32) as number 61", x.append(32), BAD);
        due("count(10)", x.count(10), 60);
        due("count(11)", x.count(11), 0);
    }

    private static void clearing() {
        now = "7 clear";
        SonMarks x = new SonMarks();
        due("clear()", x.clear(), 0);
        write(x, "f0000");
        due("clear()", x.clear(), 5);
        due("count(10)", x.count(10), 0);
        due("fault()", x.fault(), 0);
        due("count(11)", x.count(11), 0);
        due("append(100)", x.append(100), 1);
        due("append(48)", x.append(48), 2);
        due("fault()", x.fault(), NONE);
        due("clear()", x.clear(), 2);
    }

    private static void faults() {
        now = "8 fault";
        fault("", 0);
        fault("x", 0);
        fault(";", 0);
        fault("F000000", 0);
        fault("f", 1);
        fault("f00000", 6);
        fault("f000000", NONE);
        fault("f43210", 6);
        fault("f432104", NONE);
        fault("f5", 1);
        fault("f00500", 3);
        fault("f0000005", 7);
        fault("f0000000", 7);
        fault("f000000;", 8);
        fault("f000000;;", 8);
        fault("f000000s", 7);
        fault("s", 1);
        fault("s.", 1);
        fault("s0", 2);
        fault("s00", 2);
        fault("s01.0=0", 2);
        fault("s1", 2);
        fault("s19", 3);
        fault("s19.", 4);
        fault("s19.5", 5);
        fault("s19.5=", 6);
        fault("s19.5=4", NONE);
        fault("s10.0=0", NONE);
        fault("s190", 3);
        fault("s20", 2);
        fault("s2.", 3);
        fault("s1.6", 3);
        fault("s1.0=5", 5);
        fault("s1.0=44", 6);
        fault("s1.0-4", 4);
        fault("s1=", 2);
        fault("d", 1);
        fault("d0", NONE);
        fault("d00", 2);
        fault("d9", NONE);
        fault("d1", NONE);
        fault("d10", NONE);
        fault("d19", NONE);
        fault("d20", 2);
        fault("d100", 3);
        fault("d1;", 3);
        fault("d1.", 2);
        fault("d19;h1", NONE);
        fault("d19;h1x", 6);
        fault("h", 1);
        fault("h7", NONE);
        fault("h1:", 2);
        fault("h;", 1);
        fault("h/", 1);
        fault("d0;d1;h2;s3.4=1;f012340;h1;d", 28);
        fault("f000000;f000000;f000000;f000000;f000000;f000000;f000000;f000", 60);
        fault("f000000;f000000;f000000;f000000;f000000;f000000;f000000;d0;d", 60);
        fault("f000000;f000000;f000000;f000000;f000000;f000000;f000000;d0d0", 58);
        fault("f000000;f000000;f000000;f000000;f000000;f000000;s19.0=0;h10;", 60);
        fault("f000000;f000000;f000000;f000000;f000000;f000000;s19.0=0;d0;h", 60);
        fault("f000000;f000000;f000000;f000000;f000000;f000000;s9.0=0;d0;h1", NONE);
    }

    private static void fault(String text, int want) {
        SonMarks x = new SonMarks();
        write(x, text);
        due("fault() of " + text, x.fault(), want);
        due("enrol() of " + text, x.enrol() == NOT_POSSIBLE ? 1 : 0, want == NONE ? 0 : 1);
        due("count(10) after " + text, x.count(10), want == NONE ? 0 : text.length());
    }

    private static void enrolling() {
        now = "9 enrol";
        SonMarks x = new SonMarks();
        due("enrol() of nothing", x.enrol(), NOT_POSSIBLE);
        write(x, "f01234");
        due("enrol() unfinished", x.enrol(), NOT_POSSIBLE);
        due("count(10)", x.count(10), 6);
        due("count(11)", x.count(11), 0);
        write(x, "0;s0.5=4;d0;h1");
        due("enrol()", x.enrol(), 4);
        due("count(10)", x.count(10), 0);
        due("person(0, 0)", x.person(0, 0), 5 + 2 * 25 + 3 * 125 + 4 * 625);
        due("person(1, 0)", x.person(1, 0), 5 + 2 * 25 + 3 * 125 + 4 * 625);
        due("person(1, 3)", x.person(1, 3), 5);
        due("person(1, 4)", x.person(1, 4), 4);
        due("person(0, 1)", x.person(0, 1), 0);
        due("count(8)", x.count(8), 1);
        due("count(11), one change", x.count(11), 1);
        write(x, "d0;f000000");
        due("enrol(), refused at once", x.enrol(), 0);
        due("count(9)", x.count(9), 1);
        due("count(0)", x.count(0), 2);
        due("count(11)", x.count(11), 2);
        write(x, "f000001;d7;f000002");
        due("enrol(), an error in the midst", x.enrol(), 1);
        due("count(9)", x.count(9), 1);
        due("count(0)", x.count(0), 3);
        due("count(11)", x.count(11), 3);
        due("undo()", x.undo(), 2);
        due("count(0)", x.count(0), 2);
        due("count(10)", x.count(10), 0);
        due("undo()", x.undo(), 1);
        due("count(9)", x.count(9), 0);
        due("undo()", x.undo(), 0);
        due("count(0)", x.count(0), 0);

        SonMarks full = fullRoll();
        write(full, "d19;s10.5=4;d18");
        due("enrol() in a full roll", full.enrol(), 1);
        due("why(0)", full.why(0), LIMIT);
        due("person(19, 1)", full.person(19, 1), 0);
        write(full, "s18.0=0;h9");
        due("enrol() with two digits, full", full.enrol(), 0);
        write(full, "d18;d17;h16");
        due("enrol() with two digits", full.enrol(), 2);
        due("person(18, 1)", full.person(18, 1), 0);
        due("person(17, 1)", full.person(17, 1), 0);
        due("person(1, 1)", full.person(1, 1), 1);
        enrollingLaterFathers();
    }

    /** Fathers of two digits: 10, 14, 17 and 18. */
    private static void enrollingLaterFathers() {
        SonMarks x = new SonMarks();
        for (int i = 0; i < 15; i++) {
            due("found(" + i * 31 + ")", x.found(i * 31), 10 + i);
        }
        int[] fathers = {10, 14, 14, 17, 18};
        for (int i = 0; i < fathers.length; i++) {
            int mark = x.mark(fathers[i], 5) + 1;
            write(x, "s" + fathers[i] + ".5=" + mark);
            due("enrol() of a son of " + fathers[i], x.enrol(), i == 2 ? 0 : 1);
            write(x, "s" + fathers[i] + ".4=" + 4);
            due("enrol() of one more", i == 2 ? x.enrol() : x.clear(), i == 2 ? 1 : 7);
        }
        due("person(15, 2)", x.person(15, 2), 10);
        due("person(16, 2)", x.person(16, 2), 14);
        due("person(17, 2)", x.person(17, 2), 14);
        due("person(18, 2)", x.person(18, 2), 17);
        due("person(19, 2)", x.person(19, 2), 18);
        due("person(19, 3)", x.person(19, 3), 5);
        due("person(17, 3)", x.person(17, 3), 4);
        write(x, "h19;d19");
        due("enrol() of an heir whose father lives", x.enrol(), 0);
    }

    private static void reasonsOfStops() {
        now = "10 why";
        SonMarks x = new SonMarks();
        for (int what = 0; what <= 2; what++) {
            due("why(" + what + ")", x.why(what), NONE);
        }
        due("why(3)", x.why(3), BAD);
        due("why(-1)", x.why(-1), BAD);
        write(x, "f000000;s0.0=1;s0.0=1;d0");
        due("enrol()", x.enrol(), 2);
        stopped(x, 3, 2, 15);
        write(x, "zz");
        due("enrol()", x.enrol(), NOT_POSSIBLE);
        stopped(x, 3, 2, 15);
        due("undo()", x.undo(), 0);
        stopped(x, 3, 2, 15);
        due("save()", x.save(), 0);
        due("restore()", x.restore(), 0);
        stopped(x, 3, 2, 15);
        x.clear();
        write(x, "d10");
        due("enrol()", x.enrol(), 0);
        stopped(x, BAD, 0, 0);
        write(x, "f000000;f000001;d1;h1");
        due("enrol()", x.enrol(), 3);
        stopped(x, NOT_POSSIBLE, 3, 19);
        due("found(0) does not matter", x.found(0), 3);
        stopped(x, NOT_POSSIBLE, 3, 19);
        write(x, "d0");
        due("enrol()", x.enrol(), 1);
        stopped(x, NONE, NONE, NONE);
        due("why(3)", x.why(3), BAD);
        due("why(-1)", x.why(-1), BAD);
        due("why(MAX)", x.why(Integer.MAX_VALUE), BAD);
        due("why(MIN)", x.why(Integer.MIN_VALUE), BAD);
        write(x, "s0.0=0");
        due("enrol()", x.enrol(), 0);
        stopped(x, 1, 0, 0);
    }

    private static void stopped(SonMarks x, int answer, int deed, int position) {
        due("why(0)", x.why(0), answer);
        due("why(1)", x.why(1), deed);
        due("why(2)", x.why(2), position);
    }

    /** 0 has the sons 1, 2, 3; 1 has 4, 5; 2 has 6; 4 has 7; 8 is a founder; 5 is dead. */
    private static SonMarks family() {
        return made("f000000;s0.0=1;s0.1=1;s0.2=1;s1.3=2;s1.4=3", "s2.5=4;s4.0=2;f444444;d5");
    }

    private static void propertiesOfPersons() {
        now = "11 person";
        SonMarks x = family();
        properties(x, 0, 0, 1, NONE, NONE, NONE, 3, 3, 0, 0, 7, 0, NONE);
        properties(x, 1, 1, 1, 0, 0, 1, 2, 1, 2, 0, 3, 1, 1);
        properties(x, 4, 251, 1, 1, 3, 2, 1, 1, 0, 1, 1, 2, 1);
        properties(x, 5, 1876, 0, 1, 4, 3, 0, 0, 1, 1, 0, 2, 1);
        properties(x, 6, 12505, 1, 2, 5, 4, 0, 0, 0, 1, 0, 2, 1);
        properties(x, 7, 252, 1, 4, 0, 2, 0, 0, 0, 0, 0, 3, 1);
        properties(x, 8, 15624, 1, NONE, NONE, NONE, 0, 0, 0, 0, 0, 0, NONE);
        due("die(0)", x.die(0), 17);
        due("inherit(1)", x.inherit(1), 11);
        due("die(1)", x.die(1), 16);
        due("inherit(4)", x.inherit(4), 12);
        properties(x, 0, 0, 0, NONE, NONE, NONE, 3, 2, 0, 0, 7, 0, NONE);
        properties(x, 1, 0, 0, 0, 0, 1, 2, 1, 2, 0, 3, 1, 0);
        properties(x, 2, 5, 1, 0, 1, 1, 1, 1, 1, 0, 1, 1, 1);
        properties(x, 4, 0, 1, 1, 3, 2, 1, 1, 0, 1, 1, 2, 0);
        properties(x, 5, 1876, 0, 1, 4, 3, 0, 0, 1, 1, 0, 2, 2);
        properties(x, 7, 252, 1, 4, 0, 2, 0, 0, 0, 0, 0, 3, 2);
        int[] none = {-1, 12, Integer.MIN_VALUE, Integer.MAX_VALUE};
        for (int what : none) {
            due("person(0, " + what + ")", x.person(0, what), BAD);
        }
        for (int person : NO_PERSONS) {
            due("person(" + person + ", 0)", x.person(person, 0), BAD);
        }
        due("person(9, 0)", x.person(9, 0), BAD);
    }

    private static void properties(SonMarks x, int person, int... wants) {
        for (int what = 0; what < 12; what++) {
            due("person(" + person + ", " + what + ")", x.person(person, what), wants[what]);
        }
    }

    private static void marks() {
        now = "12 mark";
        SonMarks x = made("f432104;s0.1=1;d0");
        int[] wants = {4, 3, 2, 1, 0, 4};
        for (int place = 0; place < 6; place++) {
            due("mark(0, " + place + ")", x.mark(0, place), wants[place]);
            due("mark(1, " + place + ")", x.mark(1, place), place == 1 ? 1 : wants[place]);
        }
        for (int place : NO_PLACES) {
            due("mark(0, " + place + ")", x.mark(0, place), BAD);
        }
        for (int person : NO_PERSONS) {
            due("mark(" + person + ", 0)", x.mark(person, 0), BAD);
        }
        due("mark(2, 0)", x.mark(2, 0), BAD);
    }

    private static void whyNotBorn() {
        now = "13 whyNot";
        SonMarks x = made("f000000;s0.0=1;s0.1=1;s1.3=2;s1.4=3;f444444", "d4;s0.2=1;s0.3=1");
        int states = x.count(11);
        due("whyNot(5, 0, 0)", x.whyNot(5, 0, 0), 0);
        due("whyNot(4, 0, 0), dead", x.whyNot(4, 0, 0), 1);
        due("whyNot(4, 0, 1), dead, there", x.whyNot(4, 0, 1), 1);
        due("whyNot(0, 0, 0), there, four sons", x.whyNot(0, 0, 0), 2);
        due("whyNot(0, 0, 1), borne, four sons", x.whyNot(0, 0, 1), 3);
        due("whyNot(0, 0, 2), four sons", x.whyNot(0, 0, 2), 5);
        due("whyNot(2, 3, 2), a cousin", x.whyNot(2, 3, 2), 4);
        due("whyNot(2, 3, 0), a cousin, there", x.whyNot(2, 3, 0), 2);
        due("whyNot(2, 4, 3), a dead cousin", x.whyNot(2, 4, 3), 0);
        due("whyNot(2, 1, 0), the grandfather's shield", x.whyNot(2, 1, 0), 3);
        due("count(9)", x.count(9), 0);
        due("count(11)", x.count(11), states);
        for (int father : NO_PERSONS) {
            due("whyNot(" + father + ", 0, 2)", x.whyNot(father, 0, 2), BAD);
        }
        for (int place : NO_PLACES) {
            due("whyNot(0, " + place + ", 2)", x.whyNot(0, place, 2), BAD);
        }
        for (int mark : NO_MARKS) {
            due("whyNot(0, 0, " + mark + ")", x.whyNot(0, 0, mark), BAD);
        }
        due("in a full roll: whyNot(0, 5, 4)", fullRoll().whyNot(0, 5, 4), 0);
        SonMarks y = made("f000000;s0.0=1;s0.1=1;s0.2=1;s1.3=2;s2.0=1");
        due("bear(2, 4, 1)", y.bear(2, 4, 1), 16);
        due("bear(2, 4, 2)", y.bear(2, 4, 2), 17);
        due("bear(2, 4, 3)", y.bear(2, 4, 3), 18);
        due("whyNot(2, 3, 1), a cousin and four sons", y.whyNot(2, 3, 1), 4);
    }

    private static void choicesLeft() {
        now = "14 choices";
        SonMarks x = new SonMarks();
        due("found(0)", x.found(0), 10);
        bothChoices(x, 0, 24);
        due("found(3)", x.found(3), 11);
        bothChoices(x, 0, 23);
        due("found(6), two places away", x.found(6), 12);
        bothChoices(x, 0, 23);
        due("bear(0, 5, 1)", x.bear(0, 5, 1), 13);
        bothChoices(x, 0, 22);
        due("die(3)", x.die(3), 13);
        bothChoices(x, 0, 23);
        bothChoices(x, 3, 0);
        for (int father : NO_PERSONS) {
            due("choices(" + father + ", 0)", x.choices(father, 0), BAD);
            due("choices(" + father + ", 1)", x.choices(father, 1), BAD);
        }
        int[] none = {-1, 2, Integer.MIN_VALUE, Integer.MAX_VALUE};
        for (int way : none) {
            due("choices(0, " + way + ")", x.choices(0, way), BAD);
        }
        bothChoices(fullRoll(), 0, 24);
    }

    private static void choicesAfterCousins() {
        SonMarks x = made("f000000;s0.0=1;s0.1=1;s1.3=2;s1.3=3;s1.4=3");
        bothChoices(x, 2, 4 * 4 - 1);
        due("found(630), a son of 2 at a place that is not left", x.found(630), 16);
        due("found(10), a son of 2 at a place that is left", x.found(10), 17);
        bothChoices(x, 2, 4 * 4 - 2);
        due("die(3)", x.die(3), 17);
        bothChoices(x, 2, 4 * 4 - 2);
        due("die(5)", x.die(5), 16);
        bothChoices(x, 2, 5 * 4 - 3);
        due("die(4)", x.die(4), 15);
        bothChoices(x, 2, 6 * 4 - 3);
        SonMarks y = made("f000000;s0.0=1;s0.1=1;s0.2=1;s0.3=1");
        bothChoices(y, 0, 0);
        due("die(1)", y.die(1), 14);
        bothChoices(y, 0, 0);
    }

    private static void bothChoices(SonMarks x, int father, int want) {
        due("choices(" + father + ", 0)", x.choices(father, 0), want);
        due("choices(" + father + ", 1)", x.choices(father, 1), want);
    }

    private static void bestChanges() {
        now = "15 best";
        SonMarks x = new SonMarks();
        due("found(0)", x.found(0), 10);
        due("best(0), no one else: 0 is there", x.best(0), 1);
        due("found(15624)", x.found(15624), 11);
        due("best(0), all but 4 are 6 away", x.best(0), 1);
        due("best(1), all but 0 are 6 away", x.best(1), 1);
        due("found(1)", x.found(1), 12);
        due("best(0): 2 is one away, place 1 is two away", x.best(0), 6);
        due("best(2)", x.best(2), 6);
        due("die(2)", x.die(2), 12);
        due("best(0), the dead do not count", x.best(0), 1);
        due("best(2), dead", x.best(2), NONE);
        for (int father : NO_PERSONS) {
            due("best(" + father + ")", x.best(father), BAD);
        }
        due("best(3)", x.best(3), BAD);
        SonMarks y = made("f000000;s0.0=1;s0.1=1;s1.2=2;s1.3=3");
        due("best(2): 2 at the place 0 is two away from 0", y.best(2), 2);
        due("found(7), one more with 1 at the place 1", y.found(7), 15);
        due("best(2), 2 and 3 are a cousin's places, 0 is near", y.best(2), 21);
        due("best(0)", y.best(0), 11);
        due("best(1): 1 at the place 1 is one away from 2", y.best(1), 7);
        SonMarks z = made("f000000;s0.0=1;s0.1=1;s0.2=1;s0.3=1");
        due("best(0), four sons", z.best(0), NONE);
        SonMarks w = made("f444444");
        due("best(0), no one else, the mark 0 at the place 0", w.best(0), 0);
        due("best of a full roll", fullRoll().best(19) >= 0 ? 1 : 0, 1);
    }

    private static void differences() {
        now = "16 differs";
        SonMarks x = made("f000000;f444444;f000001;f010041;d2");
        due("differs(0, 0)", x.differs(0, 0), 0);
        due("differs(0, 1)", x.differs(0, 1), 6);
        due("differs(1, 0)", x.differs(1, 0), 6);
        due("differs(0, 2), a dead one", x.differs(0, 2), 1);
        due("differs(2, 3)", x.differs(2, 3), 2);
        due("differs(3, 1)", x.differs(3, 1), 5);
        for (int none : NO_PERSONS) {
            due("differs(" + none + ", 0)", x.differs(none, 0), BAD);
            due("differs(0, " + none + ")", x.differs(0, none), BAD);
        }
        due("differs(4, 4)", x.differs(4, 4), BAD);
    }

    private static void nearness() {
        now = "17 kin";
        SonMarks x = family();
        due("kin(0, 0)", x.kin(0, 0), 0);
        due("kin(0, 7)", x.kin(0, 7), 3);
        due("kin(7, 0)", x.kin(7, 0), 3);
        due("kin(1, 3)", x.kin(1, 3), 2);
        due("kin(4, 5), brothers, one dead", x.kin(4, 5), 2);
        due("kin(5, 6), cousins", x.kin(5, 6), 4);
        due("kin(6, 7)", x.kin(6, 7), 5);
        due("kin(7, 5)", x.kin(7, 5), 3);
        due("kin(2, 6)", x.kin(2, 6), 1);
        due("kin(8, 0), two founders", x.kin(8, 0), NONE);
        due("kin(0, 8)", x.kin(0, 8), NONE);
        due("kin(7, 8)", x.kin(7, 8), NONE);
        due("kin(8, 8)", x.kin(8, 8), 0);
        for (int none : NO_PERSONS) {
            due("kin(" + none + ", 0)", x.kin(none, 0), BAD);
            due("kin(0, " + none + ")", x.kin(0, none), BAD);
        }
        due("kin(9, 9)", x.kin(9, 9), BAD);
        deepestKin();
    }

    private static void deepestKin() {
        SonMarks x = made("f000000");
        for (int i = 1; i < 20; i++) {
            due("bear", x.bear(i - 1, i % 6, i / 6 % 4 + 1), 10 + i);
        }
        due("kin(0, 19)", x.kin(0, 19), 19);
        due("kin(19, 0)", x.kin(19, 0), 19);
        due("person(19, 10)", x.person(19, 10), 19);
        due("person(0, 9)", x.person(0, 9), 19);
        due("count(4)", x.count(4), 19);
    }

    private static void bearers() {
        now = "18 bearer";
        SonMarks x = made("f000000;s0.0=1;f444444");
        due("bearer(0)", x.bearer(0), 0);
        due("bearer(1)", x.bearer(1), 1);
        due("bearer(15624)", x.bearer(15624), 2);
        due("bearer(2)", x.bearer(2), NONE);
        due("die(0)", x.die(0), 12);
        due("bearer(0), dead", x.bearer(0), NONE);
        due("inherit(1)", x.inherit(1), 11);
        due("bearer(0)", x.bearer(0), 1);
        due("bearer(1)", x.bearer(1), NONE);
        for (int shield : NO_SHIELDS) {
            due("bearer(" + shield + ")", x.bearer(shield), BAD);
        }
    }

    private static void lines() {
        now = "19 line";
        SonMarks x = made("f000000;s0.0=1;s0.1=1;s0.2=1;s0.3=1;f444444");
        bothLines(x, 0, 0, 0);
        bothLines(x, 0, 1, NONE);
        bothLines(x, 1, 0, NONE);
        bothLines(x, 0, 15624, NONE);
        bothLines(x, 0, 2, 1);
        bothLines(x, 0, 12500, 1);
        bothLines(x, 0, 15623, 6);
        bothLines(x, 5, 15623, 1);
        bothLines(x, 5, 2, 6);
        due("die(5)", x.die(5), 15);
        bothLines(x, 0, 15624, 6);
        bothLines(x, 5, 0, NOT_POSSIBLE);
        bothLines(x, 5, 15624, NOT_POSSIBLE);
        for (int none : NO_PERSONS) {
            bothLines(x, none, 0, BAD);
        }
        bothLines(x, 6, 0, BAD);
        for (int shield : NO_SHIELDS) {
            bothLines(x, 0, shield, BAD);
            bothLines(x, 5, shield, BAD);
        }
        due("line(0, 0, 2)", x.line(0, 0, 2), BAD);
        due("line(0, 0, -1)", x.line(0, 0, -1), BAD);
        due("line(5, 0, 2)", x.line(5, 0, 2), BAD);
    }

    /** The ways of fewest changes are closed one after the other. */
    private static void linesRoundWalls() {
        SonMarks x = made("f000000;f100000");
        bothLines(x, 0, 6, 2);
        due("found(5)", x.found(5), 12);
        bothLines(x, 0, 6, 3);
        int[] walls = {2, 3, 4, 10, 15, 20};
        for (int i = 0; i < walls.length; i++) {
            bothLines(x, 0, 6, 3);
            due("found(" + walls[i] + ")", x.found(walls[i]), 13 + i);
        }
        bothLines(x, 0, 6, 4);
        due("die(8)", x.die(8), 18);
        bothLines(x, 0, 6, 3);
        due("die(1)", x.die(1), 17);
        bothLines(x, 0, 6, 2);
        SonMarks y = made("f000000;f400000;f040000;f004000;f000400;f000040");
        bothLines(y, 0, 15624, 6);
        due("found(12500)", y.found(12500), 16);
        bothLines(y, 0, 15624, 7);
        bothLines(y, 0, 3124, 6);
        SonMarks z = made("f444444;f044444;f404444;f440444;f444044;f444404");
        due("found(3124)", z.found(3124), 16);
        bothLines(z, 0, 0, 7);
        bothLines(z, 0, 1, 6);
        bothLines(z, 1, 15623, 1);
        lineRoundFourPlaces();
    }

    /** All of the first steps towards four places are closed: 4 straight ones, 12 beside them. */
    private static void lineRoundFourPlaces() {
        SonMarks x = new SonMarks();
        due("found(0)", x.found(0), 10);
        int person = 11;
        for (int place = 1; place <= 125; place *= 5) {
            for (int mark = 1; mark <= 4; mark++) {
                bothLines(x, 0, 156, person < 11 + 13 ? 4 : 5);
                due("found(" + mark * place + ")", x.found(mark * place), person++);
            }
        }
        bothLines(x, 0, 156, 6);
    }

    private static void bothLines(SonMarks x, int person, int shield, int want) {
        due("line(" + person + ", " + shield + ", 0)", x.line(person, shield, 0), want);
        due("line(" + person + ", " + shield + ", 1)", x.line(person, shield, 1), want);
    }

    private static void counts() {
        now = "20 count";
        SonMarks x = family();
        allCounts(x, 9, 8, 2, 0, 3, 9, 0, 4, 0, 0, 0, 2);
        write(x, "d0");
        due("found(0)", x.found(0), 3);
        allCounts(x, 9, 8, 2, 0, 3, 9, 0, 4, 0, 1, 2, 3);
        due("die(0)", x.die(0), 17);
        allCounts(x, 9, 7, 2, 0, 3, 9, 0, 4, 0, 1, 2, 4);
        due("inherit(1)", x.inherit(1), 11);
        allCounts(x, 9, 7, 2, 2, 3, 8, 1, 4, 1, 1, 2, 4);
        due("die(1)", x.die(1), 16);
        due("inherit(4)", x.inherit(4), 12);
        allCounts(x, 9, 6, 2, 2, 3, 7, 1, 4, 2, 1, 2, 4);
        due("die(7)", x.die(7), 15);
        allCounts(x, 9, 5, 2, 2, 3, 7, 0, 3, 2, 1, 2, 4);
        int[] none = {-1, 12, Integer.MIN_VALUE, Integer.MAX_VALUE};
        for (int what : none) {
            due("count(" + what + ")", x.count(what), BAD);
        }
        confusions();
    }

    private static void allCounts(SonMarks x, int... wants) {
        for (int what = 0; what < 12; what++) {
            due("count(" + what + ")", x.count(what), wants[what]);
        }
    }

    private static void confusions() {
        SonMarks x = made("f000000;s0.0=1");
        due("count(3), father and son", x.count(3), 0);
        due("bear(0, 0, 2)", x.bear(0, 0, 2), 12);
        due("count(3), brothers", x.count(3), 1);
        due("bear(1, 0, 3)", x.bear(1, 0, 3), 13);
        due("count(3), the grandfather and the uncle too", x.count(3), 3);
        due("found(4)", x.found(4), 14);
        due("count(3), all but father and son", x.count(3), 7);
        due("die(2)", x.die(2), 14);
        due("count(3), the dead are not confused", x.count(3), 4);
    }

    private static void marksBorne() {
        now = "21 borne";
        SonMarks x = made("f012340;f112344;s0.0=1;d1");
        due("borne(0, 0)", x.borne(0, 0), 1);
        due("borne(0, 1)", x.borne(0, 1), 1);
        due("borne(1, 1)", x.borne(1, 1), 2);
        due("borne(2, 2)", x.borne(2, 2), 2);
        due("borne(5, 4), a dead one", x.borne(5, 4), 0);
        due("borne(5, 0)", x.borne(5, 0), 2);
        due("borne(4, 4)", x.borne(4, 4), 2);
        for (int place : NO_PLACES) {
            due("borne(" + place + ", 0)", x.borne(place, 0), BAD);
        }
        for (int mark : NO_MARKS) {
            due("borne(0, " + mark + ")", x.borne(0, mark), BAD);
        }
    }

    private static void unlikeness() {
        now = "22 unlike";
        SonMarks x = new SonMarks();
        due("found(0)", x.found(0), 10);
        dues.dueDouble("22: unlike() of one", x.unlike(), 0.0);
        due("found(15624)", x.found(15624), 11);
        dues.dueDouble("22: unlike() of two", x.unlike(), 6.0);
        due("found(1)", x.found(1), 12);
        dues.dueDouble("22: unlike() of three", x.unlike(), 13.0 / 3.0);
        due("found(7)", x.found(7), 13);
        dues.dueDouble("22: unlike() of four", x.unlike(), 23.0 / 6.0);
        due("die(1)", x.die(1), 13);
        dues.dueDouble("22: unlike() without a dead one", x.unlike(), 5.0 / 3.0);
        due("die(0)", x.die(0), 12);
        due("die(2)", x.die(2), 11);
        dues.dueDouble("22: unlike() of the last", x.unlike(), 0.0);
        due("die(3)", x.die(3), 10);
        dues.dueDouble("22: unlike() of none", x.unlike(), 0.0);
    }

    private static void ifSomeoneDied() {
        now = "23 ifDead";
        SonMarks x = family();
        int states = x.count(11);
        due("ifDead(0, 0)", x.ifDead(0, 0), 1);
        due("ifDead(1, 0)", x.ifDead(1, 0), 4);
        due("ifDead(3, 0), no son", x.ifDead(3, 0), NONE);
        due("ifDead(8, 0)", x.ifDead(8, 0), NONE);
        due("ifDead(0, 1)", x.ifDead(0, 1), 0);
        due("ifDead(7, 1)", x.ifDead(7, 1), 0);
        for (int person = 0; person < 9; person++) {
            if (person != 5) {
                deathAsTold(x, person);
            }
        }
        due("count(1)", x.count(1), 8);
        due("count(11)", x.count(11), states);
        due("ifDead(5, 0), dead", x.ifDead(5, 0), NOT_POSSIBLE);
        due("ifDead(5, 3), dead", x.ifDead(5, 3), BAD);
        due("ifDead(0, 3)", x.ifDead(0, 3), BAD);
        due("ifDead(0, -1)", x.ifDead(0, -1), BAD);
        due("ifDead(9, 0)", x.ifDead(9, 0), BAD);
        for (int none : NO_PERSONS) {
            due("ifDead(" + none + ", 0)", x.ifDead(none, 0), BAD);
        }
        SonMarks y = made("f000000;f100000");
        due("ifDead(0, 2), the other one's shield is freed", y.ifDead(0, 2), 24);
        due("ifDead(0, 1)", y.ifDead(0, 1), 0);
        SonMarks z = made("f000000;s0.0=1;s0.1=1;s1.2=2");
        due("ifDead(3, 2), cousins may have 2 again", z.ifDead(3, 2), 22 + 23 + 23);
        due("choices(2, 0) now", z.choices(2, 0), 19);
        due("ifDead(1, 2)", z.ifDead(1, 2), 23 + 19 + 24);
        due("die(1)", z.die(1), 13);
        due("ifDead(0, 0), the elder one is dead", z.ifDead(0, 0), 2);
    }

    /** What ifDead tells must be so after die; undone after it. */
    private static void deathAsTold(SonMarks x, int person) {
        int heir = x.ifDead(person, 0);
        int confused = x.ifDead(person, 1);
        int left = x.ifDead(person, 2);
        due("die(" + person + ")", x.die(person), 17);
        due("count(3) after " + person, x.count(3), confused);
        int sum = 0;
        for (int i = 0; i < 9; i++) {
            sum += x.person(i, 1) == 1 ? x.choices(i, 0) : 0;
        }
        due("choices after " + person, sum, left);
        if (heir >= 0) {
            due("inherit(" + heir + ")", x.inherit(heir) > 10 ? 1 : 0, 1);
            x.undo();
        }
        due("undo()", x.undo() >= 0 ? 1 : 0, 1);
    }

    private static void undoing() {
        now = "24 undo";
        SonMarks x = new SonMarks();
        due("undo()", x.undo(), NOT_POSSIBLE);
        due("found(0)", x.found(0), 10);
        due("bear(0, 0, 1)", x.bear(0, 0, 1), 11);
        due("die(0)", x.die(0), 11);
        due("inherit(1)", x.inherit(1), 11);
        due("count(11)", x.count(11), 4);
        due("inherit(1), refused", x.inherit(1), 3);
        due("count(11), the oldest is dropped", x.count(11), 4);
        due("found(-1), an error", x.found(-1), BAD);
        due("append(102)", x.append(102), 1);
        due("save()", x.save(), 1);
        due("undo() of the refusal", x.undo(), 3);
        due("count(9)", x.count(9), 0);
        due("count(8)", x.count(8), 1);
        due("count(10), the pad stays", x.count(10), 1);
        due("undo() of the heir", x.undo(), 2);
        due("person(1, 0)", x.person(1, 0), 1);
        due("count(8)", x.count(8), 0);
        due("undo() of the death", x.undo(), 1);
        due("person(0, 1)", x.person(0, 1), 1);
        due("undo() of the birth", x.undo(), 0);
        due("count(0)", x.count(0), 1);
        due("person(1, 0)", x.person(1, 0), BAD);
        due("undo(), the founder's was dropped", x.undo(), NOT_POSSIBLE);
        due("count(0)", x.count(0), 1);
        due("bear(0, 2, 2) after undo", x.bear(0, 2, 2), 11);
        due("person(1, 3)", x.person(1, 3), 2);
        due("restore(), the snapshot stays", x.restore(), 1);
        due("count(9), as it was saved", x.count(9), 1);
        due("count(8)", x.count(8), 1);
        due("person(1, 4), as it was saved", x.person(1, 4), 1);
        due("undo() of restore", x.undo(), 1);
        due("person(1, 0)", x.person(1, 0), 50);
        due("person(1, 3)", x.person(1, 3), 2);
        due("person(1, 4)", x.person(1, 4), 2);
        due("count(9)", x.count(9), 0);
        undoingEachKind();
    }

    /** One undo after each kind of change, in an object whose history was used before. */
    private static void undoingEachKind() {
        SonMarks x = made("f000000;s0.0=1", "s0.0=2", "d0", "h1");
        due("found(77)", x.found(77), 13);
        due("undo() of found", x.undo(), 3);
        due("count(0)", x.count(0), 3);
        due("count(1)", x.count(1), 2);
        due("found(0), refused", x.found(0), 3);
        due("undo() of found", x.undo(), 3);
        due("count(9)", x.count(9), 0);
        due("count(1)", x.count(1), 2);
        due("bear(1, 5, 1)", x.bear(1, 5, 1), 13);
        due("undo() of bear", x.undo(), 3);
        due("count(0)", x.count(0), 3);
        due("die(2)", x.die(2), 11);
        due("undo() of die", x.undo(), 3);
        due("person(2, 1)", x.person(2, 1), 1);
        due("die(1)", x.die(1), 11);
        due("inherit(2)", x.inherit(2), 11);
        due("undo() of inherit", x.undo(), 3);
        due("person(2, 0)", x.person(2, 0), 2);
        due("count(8)", x.count(8), 1);
        write(x, "h2;d2");
        due("enrol()", x.enrol(), 2);
        due("undo() of enrol", x.undo(), 3);
        due("person(2, 0)", x.person(2, 0), 2);
        due("person(2, 1)", x.person(2, 1), 1);
        due("undo() of the death of 1", x.undo(), 2);
        due("person(1, 1)", x.person(1, 1), 1);
    }

    private static void saving() {
        now = "25 save";
        SonMarks x = new SonMarks();
        due("save() of nothing", x.save(), 0);
        due("count(11)", x.count(11), 0);
        due("found(0)", x.found(0), 10);
        due("found(1)", x.found(1), 11);
        due("die(0)", x.die(0), 11);
        due("save()", x.save(), 1);
        due("count(11)", x.count(11), 3);
        due("die(1)", x.die(1), 10);
        due("restore(), the later one", x.restore(), 1);
        due("count(0)", x.count(0), 2);
        due("person(0, 1)", x.person(0, 1), 0);
        due("person(1, 1)", x.person(1, 1), 1);
    }

    private static void restoring() {
        now = "26 restore";
        SonMarks x = new SonMarks();
        due("restore()", x.restore(), NOT_POSSIBLE);
        due("count(11)", x.count(11), 0);
        due("save()", x.save(), 0);
        due("found(0)", x.found(0), 10);
        due("found(0)", x.found(0), 3);
        due("append(102)", x.append(102), 1);
        due("restore()", x.restore(), 0);
        due("count(0)", x.count(0), 0);
        due("count(9)", x.count(9), 0);
        due("count(10), the pad stays", x.count(10), 1);
        due("count(11), a change", x.count(11), 3);
        due("found(5)", x.found(5), 10);
        due("found(6)", x.found(6), 11);
        due("restore() again", x.restore(), 0);
        due("count(11)", x.count(11), 4);
        due("undo()", x.undo(), 3);
        due("person(1, 0)", x.person(1, 0), 6);
        due("save()", x.save(), 2);
        due("die(0)", x.die(0), 11);
        due("found(9)", x.found(9), 12);
        due("restore()", x.restore(), 2);
        due("count(0)", x.count(0), 2);
        due("restore() of the same", x.restore(), 2);
        due("bear(0, 0, 1), the snapshot is not what is changed", x.bear(0, 0, 1), 3);
        due("bear(0, 0, 2)", x.bear(0, 0, 2), 12);
        due("restore()", x.restore(), 2);
        due("person(2, 0)", x.person(2, 0), BAD);
        due("restore()", x.restore(), 2);
        due("restore()", x.restore(), 2);
        due("restore()", x.restore(), 2);
        due("undo()", x.undo(), 3);
        due("count(9)", x.count(9), 0);
    }
}
