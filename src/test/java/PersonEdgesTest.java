/** The boundary cases of the promises 11 to 15: what is told of a person, and of the sons he may have. */
public final class PersonEdgesTest extends Edges {
    private static final int[] WRONG_PERSONS = {LEAST, -20, -1, 3, 4, 19, 20, 21, MOST};
    private static final int[] WRONG_PLACES = {LEAST, -1, 6, 7, MOST};
    private static final int[] WRONG_MARKS = {LEAST, -1, 5, 6, MOST};

    public static void main(String[] args) {
        runAll(PersonEdgesTest.class, 11, 15);
    }

    /** Three persons: each greater number is none. */
    private static SonMarks three() {
        return roll("f000000;s0.0=1;f444444");
    }

    // ---- promise 11

    static void p11Person() {
        sentence("`person`: a person");
        SonMarks x = three();
        for (int person : WRONG_PERSONS) {
            due("person(" + person + ", 0)", x.person(person, 0), BAD);
            due("person(" + person + ", 11)", x.person(person, 11), BAD);
            due("person(" + person + ", 12)", x.person(person, 12), BAD);
        }
        due("person(0, 0)", x.person(0, 0), 0);
        due("person(1, 0)", x.person(1, 0), 1);
        due("person(2, 0)", x.person(2, 0), 15624);
        SonMarks full = founders(20);
        due("person(19, 0) of 20", full.person(19, 0), 589);
        due("person(20, 0) of 20", full.person(20, 0), BAD);
        due("person(-1, 0) of 20", full.person(-1, 0), BAD);
    }

    static void p11What() {
        sentence("`what`: 0: the shield; 1: 1 if the person lives, otherwise 0; 2: the father, NOT_FOUND for a founder");
        SonMarks x = three();
        int[] wrong = {LEAST, -1, 12, 13, MOST};
        for (int what : wrong) {
            due("person(0, " + what + ")", x.person(0, what), BAD);
            due("person(1, " + what + ")", x.person(1, what), BAD);
        }
        due("person(1, 0)", x.person(1, 0), 1);
        due("person(1, 11)", x.person(1, 11), 1);
    }

    static void p11Shield() {
        sentence("0: the shield");
        SonMarks x = roll("f000000;f444444;f100000;f344444");
        due("person(0, 0)", x.person(0, 0), 0);
        due("person(1, 0)", x.person(1, 0), 15624);
        due("person(2, 0)", x.person(2, 0), 1);
        due("person(3, 0)", x.person(3, 0), 15623);
    }

    static void p11Lives() {
        sentence("1: 1 if the person lives, otherwise 0");
        SonMarks x = roll("f000000;f444444;f100000");
        due("person(1, 1)", x.person(1, 1), 1);
        due("die(1)", x.die(1), 12);
        due("person(0, 1)", x.person(0, 1), 1);
        due("person(1, 1)", x.person(1, 1), 0);
        due("person(2, 1)", x.person(2, 1), 1);
        due("die(1), refused", x.die(1), 6);
        due("person(1, 1)", x.person(1, 1), 0);
        due("undo()", x.undo(), 2);
        due("undo()", x.undo(), 1);
        due("person(1, 1)", x.person(1, 1), 1);
    }

    static void p11Father() {
        sentence("2: the father, NOT_FOUND for a founder");
        SonMarks x = roll("f000000;s0.0=1;s1.1=1;f444444;s3.0=0;d0");
        int[] wants = {NONE, 0, 1, NONE, 3};
        for (int person = 0; person < 5; person++) {
            due("person(" + person + ", 2)", x.person(person, 2), wants[person]);
        }
        SonMarks y = founders(19);
        due("bear(18, 0, 4)", y.bear(18, 0, 4), 29);
        due("person(19, 2), the greatest father", y.person(19, 2), 18);
    }

    static void p11PlaceAndMarkAtBirth() {
        sentence("3: the place that was changed at birth, 4: the mark to which it was changed, NOT_FOUND for both for a founder");
        SonMarks x = roll("f111111;s0.0=0;s0.5=4;s0.0=4;s0.5=0;f000000");
        int[] places = {NONE, 0, 5, 0, 5, NONE};
        int[] marks = {NONE, 0, 4, 4, 0, NONE};
        for (int person = 0; person < 6; person++) {
            due("person(" + person + ", 3)", x.person(person, 3), places[person]);
            due("person(" + person + ", 4)", x.person(person, 4), marks[person]);
        }
        due("die(0)", x.die(0), 15);
        due("inherit(1)", x.inherit(1), 11);
        due("person(1, 3) of the heir", x.person(1, 3), 0);
        due("person(1, 4) of the heir", x.person(1, 4), 0);
        due("mark(1, 0) of the heir", x.mark(1, 0), 1);
        due("die(1)", x.die(1), 14);
        due("person(1, 3) of the dead", x.person(1, 3), 0);
        due("person(1, 4) of the dead", x.person(1, 4), 0);
    }

    static void p11Sons() {
        sentence("5: how many sons; 6: how many living sons");
        SonMarks x = roll("f000000");
        sons(x, 0, 0, 0);
        for (int son = 1; son <= 4; son++) {
            due("bear", x.bear(0, son, 1), 10 + son);
            sons(x, 0, son, son);
        }
        due("bear, refused", x.bear(0, 0, 1), 5);
        sons(x, 0, 4, 4);
        for (int son = 1; son <= 4; son++) {
            due("die(" + son + ")", x.die(son), 15 - son);
            sons(x, 0, 4, 4 - son);
        }
        SonMarks y = tribe();
        sons(y, 0, 4, 4);
        sons(y, 1, 4, 4);
        sons(y, 4, 3, 3);
        sons(y, 5, 0, 0);
        sons(y, 19, 0, 0);
        due("die(4)", y.die(4), 29);
        sons(y, 0, 4, 3);
        sons(y, 4, 3, 3);
    }

    private static void sons(SonMarks x, int person, int sons, int living) {
        due("person(" + person + ", 5)", x.person(person, 5), sons);
        due("person(" + person + ", 6)", x.person(person, 6), living);
    }

    static void p11LivingBrothers() {
        sentence("7: how many living brothers");
        SonMarks x = tribe();
        int[] persons = {0, 1, 4, 5, 8, 16, 17, 19};
        int[] wants = {0, 3, 3, 3, 3, 3, 2, 2};
        for (int i = 0; i < persons.length; i++) {
            due("person(" + persons[i] + ", 7)", x.person(persons[i], 7), wants[i]);
        }
        due("die(1)", x.die(1), 29);
        due("person(1, 7), dead", x.person(1, 7), 3);
        due("person(2, 7)", x.person(2, 7), 2);
        due("die(2)", x.die(2), 28);
        due("die(3)", x.die(3), 27);
        due("person(4, 7), the last one", x.person(4, 7), 0);
        due("person(1, 7), dead", x.person(1, 7), 1);
        SonMarks y = roll("f000000;f444444;s0.0=1;s1.0=1");
        due("founders: person(0, 7)", y.person(0, 7), 0);
        due("founders: person(1, 7)", y.person(1, 7), 0);
        due("an only son: person(2, 7)", y.person(2, 7), 0);
    }

    static void p11LivingCousins() {
        sentence("8: how many living cousins");
        SonMarks x = tribe();
        int[] persons = {0, 1, 4, 5, 8, 16, 17, 19};
        int[] wants = {0, 0, 0, 11, 11, 11, 12, 12};
        for (int i = 0; i < persons.length; i++) {
            due("person(" + persons[i] + ", 8)", x.person(persons[i], 8), wants[i]);
        }
        due("die(1), an uncle", x.die(1), 29);
        due("die(4), the father", x.die(4), 28);
        due("person(17, 8)", x.person(17, 8), 12);
        due("die(5)", x.die(5), 27);
        due("person(17, 8)", x.person(17, 8), 11);
        due("person(5, 8), dead", x.person(5, 8), 11);
        due("person(6, 8), a brother is dead", x.person(6, 8), 11);
        SonMarks y = roll("f000000;f444444;s0.0=1;s1.0=1;s2.1=1;s3.1=1");
        due("sons of founders: person(2, 8)", y.person(2, 8), 0);
        due("their sons: person(4, 8)", y.person(4, 8), 0);
    }

    static void p11HowManyComeFrom() {
        sentence("9: how many come from this person (sons, their sons, and so on)");
        SonMarks x = chain(20);
        for (int person = 0; person < 20; person++) {
            due("person(" + person + ", 9)", x.person(person, 9), 19 - person);
        }
        due("die(19)", x.die(19), 29);
        due("person(0, 9), the dead as well", x.person(0, 9), 19);
        SonMarks y = tribe();
        due("person(0, 9)", y.person(0, 9), 19);
        due("person(1, 9)", y.person(1, 9), 4);
        due("person(4, 9)", y.person(4, 9), 3);
        due("person(5, 9)", y.person(5, 9), 0);
        SonMarks z = roll("f000000;f444444;s0.0=1;s1.0=1;s3.1=1");
        due("person(0, 9), another founder's are left out", z.person(0, 9), 1);
        due("person(1, 9)", z.person(1, 9), 2);
    }

    static void p11StepsFromTheFounder() {
        sentence("10: steps from the founder");
        SonMarks x = chain(20);
        for (int person = 0; person < 20; person++) {
            due("person(" + person + ", 10)", x.person(person, 10), person);
        }
        SonMarks y = roll("f000000;s0.0=1;f444444;s2.0=1;s1.1=2");
        int[] wants = {0, 1, 0, 1, 2};
        for (int person = 0; person < 5; person++) {
            due("person(" + person + ", 10)", y.person(person, 10), wants[person]);
        }
    }

    static void p11PlacesFromTheFather() {
        sentence("11: in how many places the shield differs from that of the father as he bears it (or bore it last)");
        SonMarks x = chain(9);
        due("person(0, 11), a founder", x.person(0, 11), NONE);
        due("person(1, 11), from birth", x.person(1, 11), 1);
        int[] places = {1, 2, 3, 4, 5, 6, 6};
        for (int i = 1; i < 8; i++) {
            due("die(" + (i - 1) + ")", x.die(i - 1), 10 + 9 - i);
            due("person(" + i + ", 11), the father bore it last", x.person(i, 11), places[i - 1]);
            due("inherit(" + i + ")", x.inherit(i), 10 + places[i - 1]);
            due("person(" + i + ", 11), the heir", x.person(i, 11), 0);
            due("person(" + (i + 1) + ", 11), the heir's son", x.person(i + 1, 11), Math.min(6, i + 1));
        }
        due("die(7)", x.die(7), 11);
        due("person(8, 11)", x.person(8, 11), 6);
        due("die(8)", x.die(8), 10);
        due("person(8, 11), a dead one", x.person(8, 11), 6);
        due("person(0, 11), a dead founder", x.person(0, 11), NONE);
    }

    static void p11OfTheDead() {
        sentence("`person`: a person");
        SonMarks x = roll("f000000;s0.0=1;s0.1=2;s1.2=3;s2.4=4;d1");
        int[] wants = {1, 0, 0, 0, 1, 1, 1, 1, 0, 1, 1, 1};
        for (int what = 0; what < 12; what++) {
            due("person(1, " + what + ")", x.person(1, what), wants[what]);
        }
    }

    // ---- promise 12

    static void p12Person() {
        sentence("`person`: a person");
        SonMarks x = three();
        for (int person : WRONG_PERSONS) {
            due("mark(" + person + ", 0)", x.mark(person, 0), BAD);
            due("mark(" + person + ", 5)", x.mark(person, 5), BAD);
            due("mark(" + person + ", 6)", x.mark(person, 6), BAD);
        }
        due("mark(0, 0)", x.mark(0, 0), 0);
        due("mark(1, 0)", x.mark(1, 0), 1);
        due("mark(2, 0)", x.mark(2, 0), 4);
        due("mark(19, 0) of 20", founders(20).mark(19, 0), 4);
        due("mark(20, 0) of 20", founders(20).mark(20, 0), BAD);
    }

    static void p12Place() {
        sentence("`place`: 0 to 5");
        SonMarks x = roll("f012343;f310420");
        for (int place : WRONG_PLACES) {
            due("mark(0, " + place + ")", x.mark(0, place), BAD);
        }
        int[] first = {0, 1, 2, 3, 4, 3};
        int[] second = {3, 1, 0, 4, 2, 0};
        for (int place = 0; place < 6; place++) {
            due("mark(0, " + place + ")", x.mark(0, place), first[place]);
            due("mark(1, " + place + ")", x.mark(1, place), second[place]);
        }
        due("die(0)", x.die(0), 11);
        due("mark(0, 5) of the dead", x.mark(0, 5), 3);
        due("mark(0, 6) of the dead", x.mark(0, 6), BAD);
    }

    static void p12LeastAndGreatestMark() {
        sentence("A shield has six marks, at the places 0 to 5, each 0 to 4.");
        SonMarks x = new SonMarks();
        due("found(0)", x.found(0), 10);
        due("found(15624)", x.found(15624), 11);
        due("found(1)", x.found(1), 12);
        due("found(15623)", x.found(15623), 13);
        for (int place = 0; place < 6; place++) {
            due("mark(0, " + place + ")", x.mark(0, place), 0);
            due("mark(1, " + place + ")", x.mark(1, place), 4);
            due("mark(2, " + place + ")", x.mark(2, place), place == 0 ? 1 : 0);
            due("mark(3, " + place + ")", x.mark(3, place), place == 0 ? 3 : 4);
        }
    }

    // ---- promise 13

    static void p13Father() {
        sentence("`father`: a person");
        SonMarks x = three();
        for (int father : WRONG_PERSONS) {
            due("whyNot(" + father + ", 0, 2)", x.whyNot(father, 0, 2), BAD);
            due("whyNot(" + father + ", 6, 5)", x.whyNot(father, 6, 5), BAD);
        }
        due("whyNot(0, 0, 2)", x.whyNot(0, 0, 2), 0);
        due("whyNot(2, 0, 2)", x.whyNot(2, 0, 2), 0);
        due("whyNot(19, 5, 4) of 20", founders(20).whyNot(19, 5, 4), 0);
        due("whyNot(20, 5, 4) of 20", founders(20).whyNot(20, 5, 4), BAD);
    }

    static void p13Place() {
        sentence("`place`: 0 to 5");
        SonMarks x = three();
        for (int place : WRONG_PLACES) {
            due("whyNot(0, " + place + ", 2)", x.whyNot(0, place, 2), BAD);
        }
        due("whyNot(0, 0, 2)", x.whyNot(0, 0, 2), 0);
        due("whyNot(0, 5, 2)", x.whyNot(0, 5, 2), 0);
        due("whyNot(2, 5, 4)", x.whyNot(2, 5, 4), 2);
        due("die(0)", x.die(0), 12);
        due("whyNot(0, 6, 2), dead", x.whyNot(0, 6, 2), BAD);
        due("whyNot(0, -1, 2), dead", x.whyNot(0, -1, 2), BAD);
        due("whyNot(0, 5, 2), dead", x.whyNot(0, 5, 2), 1);
    }

    static void p13Mark() {
        sentence("`mark`: 0 to 4");
        SonMarks x = three();
        for (int mark : WRONG_MARKS) {
            due("whyNot(0, 0, " + mark + ")", x.whyNot(0, 0, mark), BAD);
        }
        due("whyNot(0, 0, 0)", x.whyNot(0, 0, 0), 2);
        due("whyNot(0, 0, 4)", x.whyNot(0, 0, 4), 0);
        due("whyNot(2, 5, 0)", x.whyNot(2, 5, 0), 0);
        due("whyNot(2, 5, 4)", x.whyNot(2, 5, 4), 2);
        due("die(0)", x.die(0), 12);
        due("whyNot(0, 0, 5), dead", x.whyNot(0, 0, 5), BAD);
        due("whyNot(0, 0, -1), dead", x.whyNot(0, 0, -1), BAD);
        due("whyNot(0, 0, 4), dead", x.whyNot(0, 0, 4), 1);
    }

    static void p13FirstOfTheReasons() {
        sentence("It is refused for the first of these reasons that is so");
        SonMarks x = roll("f000000;s0.0=1;s0.1=1;s1.2=1;s1.3=1", "s1.4=1;s1.5=1;s2.0=2;f110000");
        due("whyNot(1, 0, 1): 2, 3, 4, 5 are so", x.whyNot(1, 0, 1), 2);
        due("whyNot(1, 1, 0): 2, 3, 5 are so", x.whyNot(1, 1, 0), 2);
        due("whyNot(1, 0, 0): 3, 4, 5 are so", x.whyNot(1, 0, 0), 3);
        due("whyNot(1, 1, 1): 3, 5 are so", x.whyNot(1, 1, 1), 3);
        due("whyNot(1, 0, 2): 4, 5 are so", x.whyNot(1, 0, 2), 4);
        due("whyNot(1, 1, 2): 5 is so", x.whyNot(1, 1, 2), 5);
        due("whyNot(2, 2, 1): 4 is so", x.whyNot(2, 2, 1), 4);
        due("whyNot(2, 1, 2): none is so", x.whyNot(2, 1, 2), 0);
        due("die(1)", x.die(1), 18);
        for (int i = 0; i < 30; i++) {
            due("whyNot(1, " + i / 5 + ", " + i % 5 + "): 1 is so", x.whyNot(1, i / 5, i % 5), 1);
        }
        due("count(9)", x.count(9), 0);
    }

    static void p13NoLimit() {
        sentence("Returns the reason, 1 to 5; 0 if he could be born; INVALID_ARGUMENT.");
        SonMarks x = founders(20);
        due("whyNot(0, 5, 4), 20 persons", x.whyNot(0, 5, 4), 0);
        due("whyNot(0, 5, 0), 20 persons", x.whyNot(0, 5, 0), 2);
        due("whyNot(20, 5, 0), 20 persons", x.whyNot(20, 5, 0), BAD);
    }

    static void p13AsBearAnswers() {
        sentence("Tells why a son would not be born.");
        String[] rolls = {"f000000;s0.0=1;s0.1=1;s1.2=1;s1.3=1", "s1.4=1;s1.5=1;s2.0=2;f110000", "d4;d2"};
        for (int father = 0; father < 9; father++) {
            SonMarks x = roll(rolls);
            for (int i = 0; i < 30; i++) {
                int reason = x.whyNot(father, i / 5, i % 5);
                int answer = x.bear(father, i / 5, i % 5);
                due("bear(" + father + ", " + i / 5 + ", " + i % 5 + ")", answer, reason == 0 ? 19 : reason);
                due("undo()", x.undo(), 3);
            }
        }
    }

    static void p13NothingIsChanged() {
        sentence("looks; nothing is changed");
        SonMarks x = three();
        String before = told(x);
        due("whyNot(0, 0, 0)", x.whyNot(0, 0, 0), 2);
        due("whyNot(0, 5, 4)", x.whyNot(0, 5, 4), 0);
        due("whyNot(3, 5, 4)", x.whyNot(3, 5, 4), BAD);
        same("after whyNot", told(x), before);
    }

    // ---- promise 14

    static void p14Father() {
        sentence("`father`: a person");
        SonMarks x = three();
        for (int father : WRONG_PERSONS) {
            choices(x, father, BAD);
        }
        choices(x, 0, 23);
        choices(x, 1, 23);
        choices(x, 2, 24);
    }

    static void p14Way() {
        sentence("`way`: 0: told by trying each place and mark; 1: told by the places that are left, with 4 marks each");
        SonMarks x = three();
        int[] ways = {LEAST, -1, 2, 3, MOST};
        for (int way : ways) {
            due("choices(0, " + way + ")", x.choices(0, way), BAD);
        }
        choices(x, 0, 23);
        due("die(0)", x.die(0), 12);
        for (int way : ways) {
            due("choices(0, " + way + "), dead", x.choices(0, way), BAD);
        }
        choices(x, 0, 0);
    }

    static void p14NoneAndAll() {
        sentence("Returns how many places and marks are not refused (the same for both)");
        SonMarks x = roll("f202020");
        choices(x, 0, 24);
        due("die(0)", x.die(0), 10);
        choices(x, 0, 0);
        SonMarks y = new SonMarks();
        due("found(0)", y.found(0), 10);
        for (int i = 1; i < 20; i++) {
            int weight = i <= 4 ? 1 : i <= 8 ? 5 : i <= 12 ? 25 : i <= 16 ? 125 : 625;
            choices(y, 0, 25 - i);
            due("found", y.found(weight * (1 + (i - 1) % 4)), 10 + i);
        }
        choices(y, 0, 5);
        choices(y, 1, 20);
        due("die(19)", y.die(19), 29);
        choices(y, 0, 6);
    }

    static void p14OneSuchChange() {
        sentence("less the living shields that one such change would make");
        SonMarks x = roll("f000000;f440000;f444444");
        choices(x, 0, 24);
        due("found(4), one change", x.found(4), 13);
        choices(x, 0, 23);
        choices(x, 1, 23);
        due("die(3)", x.die(3), 13);
        choices(x, 0, 24);
        choices(x, 1, 24);
    }

    static void p14FourSons() {
        sentence("5: the father has 4 sons (living or not)");
        SonMarks x = roll("f000000;s0.0=1;s0.1=1;s0.2=1");
        choices(x, 0, 21);
        due("bear(0, 3, 1)", x.bear(0, 3, 1), 14);
        choices(x, 0, 0);
        due("die(4)", x.die(4), 14);
        choices(x, 0, 0);
        due("undo()", x.undo(), 2);
        due("undo()", x.undo(), 1);
        choices(x, 0, 21);
    }

    /** The living cousins of the sons of 1 changed all six places; one after the other dies. */
    private static SonMarks sixPlacesOfCousins() {
        return roll("f000000;s0.0=1;s0.1=1;s0.2=1;s2.3=1;s2.4=1;s2.5=1", "s2.0=2;s3.1=2;s3.2=2");
    }

    static void p14SixPlacesOfCousins() {
        sentence("told by the places that are left, with 4 marks each");
        SonMarks x = sixPlacesOfCousins();
        choices(x, 1, 0);
        due("whyNot(1, 1, 1)", x.whyNot(1, 1, 1), 4);
        due("best(1)", x.best(1), NONE);
        due("die(4), of the place 3", x.die(4), 19);
        choices(x, 1, 4);
        due("best(1)", x.best(1), 16);
        due("die(7), of the place 0, where 0 bears one", x.die(7), 18);
        choices(x, 1, 7);
        due("die(9), of the place 2", x.die(9), 17);
        choices(x, 1, 11);
        due("die(8), of the place 1", x.die(8), 16);
        choices(x, 1, 15);
        due("die(6), of the place 5", x.die(6), 15);
        choices(x, 1, 19);
        due("die(5), of the place 4", x.die(5), 14);
        choices(x, 1, 23);
        due("die(0)", x.die(0), 13);
        choices(x, 1, 24);
    }

    static void p14NoLimit() {
        sentence("Returns how many places and marks are not refused (the same for both); INVALID_ARGUMENT.");
        SonMarks x = founders(20);
        choices(x, 0, 24);
        choices(x, 19, 24);
        choices(x, 20, BAD);
    }

    static void p14OfTheHeir() {
        sentence("his shield is that of the father, with this mark at this place");
        SonMarks x = roll("f000000;s0.0=1;s1.1=1;d0;h1");
        choices(x, 1, 24);
        choices(x, 2, 24);
        due("found(5)", x.found(5), 13);
        choices(x, 1, 23);
        choices(x, 2, 23);
    }

    private static void choices(SonMarks x, int father, int want) {
        due("choices(" + father + ", 0)", x.choices(father, 0), want);
        due("choices(" + father + ", 1)", x.choices(father, 1), want);
    }

    // ---- promise 15

    static void p15Father() {
        sentence("`father`: a person");
        SonMarks x = three();
        for (int father : WRONG_PERSONS) {
            due("best(" + father + ")", x.best(father), BAD);
        }
        due("best(0)", x.best(0), 6);
        due("best(1)", x.best(1), 6);
        due("best(2), 2 at the place 0 is 6 away of both", x.best(2), 2);
        due("best(20) of 20", founders(20).best(20), BAD);
    }

    static void p15NoOtherPerson() {
        sentence("that which is least over these persons counts; 6 if there is none");
        due("best(0) of 000000", roll("f000000").best(0), 1);
        due("best(0) of 100000", roll("f100000").best(0), 0);
        due("best(0) of 444444", roll("f444444").best(0), 0);
        SonMarks x = roll("f000000;f100000");
        due("best(0), there is one", x.best(0), 6);
        due("die(1)", x.die(1), 11);
        due("best(0), there is none", x.best(0), 1);
    }

    static void p15LeastAndGreatestNumber() {
        sentence("Returns 5 times the place, and the mark");
        due("best(0), the least", roll("f122222;f133333").best(0), 0);
        SonMarks x = roll("f000000;s0.0=1;s0.1=1;s0.2=1;s2.3=1;s2.4=1", "s2.0=2;s3.1=2;s3.2=2");
        due("best(1), the place 5 is left", x.best(1), 26);
        due("found {1, 5: 1}", x.found(1 + 3125), 19);
        due("best(1)", x.best(1), 27);
        due("found {1, 5: 2}", x.found(1 + 2 * 3125), 20);
        due("best(1)", x.best(1), 28);
        due("found {1, 5: 3}", x.found(1 + 3 * 3125), 21);
        due("best(1), the greatest", x.best(1), 29);
        due("choices(1, 0)", x.choices(1, 0), 1);
        due("found {1, 5: 4}", x.found(1 + 4 * 3125), 22);
        due("best(1)", x.best(1), NONE);
    }

    static void p15OfSeveralTheLeast() {
        sentence("of several the least number");
        SonMarks x = roll("f000000;f111110");
        due("best(0): 2, 3, 4 at each place are 5 away, and the place 5 is 6 away", x.best(0), 26);
        due("found(33333.)", x.found(3 * 781), 12);
        due("best(0): the place 5 is 6 away of both", x.best(0), 26);
        SonMarks y = roll("f000000;f000001");
        due("best(0): the places 0 to 4 are two away, the place 5 is one away", y.best(0), 1);
        SonMarks z = roll("f000000;f200000;f020000");
        due("best(0): from the place 2 on they are two away", z.best(0), 11);
    }

    static void p15EachLivingPersonButTheFather() {
        sentence("differs from that of each living person but the father in most places");
        SonMarks x = roll("f000000;f100000;f010000");
        due("best(0)", x.best(0), 11);
        due("die(2)", x.die(2), 12);
        due("best(0), the dead do not count", x.best(0), 6);
        due("best(1), the father does not count", x.best(1), 6);
        due("die(1)", x.die(1), 11);
        due("best(0), the dead do not count", x.best(0), 1);
    }

    static void p15AllAreRefused() {
        sentence("NOT_FOUND if all are refused.");
        SonMarks x = roll("f000000;s0.0=1;s0.1=1;s0.2=1");
        due("best(0), three sons", x.best(0), 16);
        due("bear(0, 3, 1)", x.bear(0, 3, 1), 14);
        due("best(0), four sons", x.best(0), NONE);
        due("best(1)", x.best(1) >= 0 ? 1 : 0, 1);
        due("die(1)", x.die(1), 14);
        due("best(1), dead", x.best(1), NONE);
        due("best(0), four sons, one of them dead", x.best(0), NONE);
    }

    static void p15NoLimit() {
        sentence("Finds the best change for a son.");
        SonMarks x = founders(20);
        due("best(0), 20 persons, of whom none has another mark at the places 4 and 5", x.best(0), 21);
        due("count(0)", x.count(0), 20);
    }
}
