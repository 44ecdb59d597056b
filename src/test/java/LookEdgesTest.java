/** The boundary cases of the promises 16 to 23: looks at shields, kin and lines, accounts, and what would be. */
public final class LookEdgesTest extends Edges {
    private static final int[] WRONG_PERSONS = {LEAST, -20, -1, 3, 4, 19, 20, 21, MOST};
    private static final int[] WRONG_SHIELDS = {LEAST, -15625, -1, 15625, 15626, 31249, MOST};
    private static final int[] WRONG_PLACES = {LEAST, -1, 6, 7, MOST};
    private static final int[] WRONG_MARKS = {LEAST, -1, 5, 6, MOST};

    public static void main(String[] args) {
        runAll(LookEdgesTest.class, 16, 23);
    }

    /** Three persons: each greater number is none. */
    private static SonMarks three() {
        return roll("f000000;s0.0=1;f444444");
    }

    /** Founders with the shields 0 to 19: four rows of five, each like the others of its row and its column but for one mark. */
    private static SonMarks grid() {
        SonMarks x = new SonMarks();
        for (int i = 0; i < 20; i++) {
            due("found(" + i + ")", x.found(i), 10 + i);
        }
        return x;
    }

    // ---- promise 16

    static void p16One() {
        sentence("`one`: a person");
        SonMarks x = three();
        for (int one : WRONG_PERSONS) {
            due("differs(" + one + ", 0)", x.differs(one, 0), BAD);
            due("differs(" + one + ", 2)", x.differs(one, 2), BAD);
            due("differs(" + one + ", " + one + ")", x.differs(one, one), BAD);
        }
        due("differs(0, 1)", x.differs(0, 1), 1);
        due("differs(2, 2)", x.differs(2, 2), 0);
        due("differs(2, 1)", x.differs(2, 1), 6);
        SonMarks full = grid();
        due("differs(19, 0) of 20", full.differs(19, 0), 2);
        due("differs(20, 0) of 20", full.differs(20, 0), BAD);
    }

    static void p16Other() {
        sentence("`other`: a person");
        SonMarks x = three();
        for (int other : WRONG_PERSONS) {
            due("differs(0, " + other + ")", x.differs(0, other), BAD);
            due("differs(2, " + other + ")", x.differs(2, other), BAD);
        }
        due("differs(1, 0)", x.differs(1, 0), 1);
        due("differs(1, 2)", x.differs(1, 2), 6);
        SonMarks full = grid();
        due("differs(0, 19) of 20", full.differs(0, 19), 2);
        due("differs(0, 20) of 20", full.differs(0, 20), BAD);
    }

    static void p16NoneToSixPlaces() {
        sentence("Two shields differ in as many places as their marks are not the same.");
        SonMarks x = chain(8);
        for (int person = 0; person < 8; person++) {
            due("differs(0, " + person + ")", x.differs(0, person), Math.min(6, person));
            due("differs(" + person + ", 0)", x.differs(person, 0), Math.min(6, person));
            due("differs(" + person + ", itself)", x.differs(person, person), 0);
        }
        due("differs(1, 7), both marks at the place 0 are not 0", x.differs(1, 7), 6);
        due("differs(6, 7)", x.differs(6, 7), 1);
        SonMarks y = roll("f000000;f400000;f000004;f040000;f444444");
        int[] wants = {0, 1, 1, 1, 6};
        for (int person = 0; person < 5; person++) {
            due("differs(0, " + person + ")", y.differs(0, person), wants[person]);
        }
        due("differs(1, 2)", y.differs(1, 2), 2);
        due("differs(4, 2)", y.differs(4, 2), 5);
    }

    static void p16TheSameShield() {
        sentence("Two shields differ in as many places as their marks are not the same.");
        SonMarks x = roll("f123401;d0;f123401;s1.5=2;d1;h2");
        due("differs(0, 1), a dead one", x.differs(0, 1), 0);
        due("differs(0, 2), a dead one and an heir", x.differs(0, 2), 0);
    }

    // ---- promise 17

    static void p17One() {
        sentence("`one`: a person");
        SonMarks x = three();
        for (int one : WRONG_PERSONS) {
            due("kin(" + one + ", 0)", x.kin(one, 0), BAD);
            due("kin(" + one + ", 2)", x.kin(one, 2), BAD);
            due("kin(" + one + ", " + one + ")", x.kin(one, one), BAD);
        }
        due("kin(0, 1)", x.kin(0, 1), 1);
        due("kin(2, 2)", x.kin(2, 2), 0);
        due("kin(20, 0) of 20", founders(20).kin(20, 0), BAD);
        due("kin(19, 0) of 20", founders(20).kin(19, 0), NONE);
    }

    static void p17Other() {
        sentence("`other`: a person");
        SonMarks x = three();
        for (int other : WRONG_PERSONS) {
            due("kin(0, " + other + ")", x.kin(0, other), BAD);
            due("kin(2, " + other + ")", x.kin(2, other), BAD);
        }
        due("kin(1, 0)", x.kin(1, 0), 1);
        due("kin(1, 2)", x.kin(1, 2), NONE);
        due("kin(0, 20) of 20", founders(20).kin(0, 20), BAD);
        due("kin(0, 19) of 20", founders(20).kin(0, 19), NONE);
    }

    static void p17TheSamePerson() {
        sentence("0 for the same person");
        SonMarks x = chain(20);
        for (int person = 0; person < 20; person++) {
            due("kin(" + person + ", " + person + ")", x.kin(person, person), 0);
        }
        due("die(5)", x.die(5), 29);
        due("kin(5, 5), dead", x.kin(5, 5), 0);
        due("kin(5, 6)", x.kin(5, 6), 1);
        due("kin(4, 6)", x.kin(4, 6), 2);
    }

    static void p17Nineteen() {
        sentence("the number of steps from father to son, or from son to father, on the way from the one to the other");
        SonMarks x = chain(20);
        for (int person = 0; person < 20; person++) {
            due("kin(0, " + person + ")", x.kin(0, person), person);
            due("kin(" + person + ", 0)", x.kin(person, 0), person);
            due("kin(" + person + ", 19)", x.kin(person, 19), 19 - person);
        }
    }

    /** Two lines from the sons of 0: 1, 3, 5 .. 19 and 2, 4, 6 .. 18. */
    static void p17TwoLines() {
        sentence("through the nearest person of whom both come");
        SonMarks x = new SonMarks();
        due("found(0)", x.found(0), 10);
        for (int i = 1; i < 20; i++) {
            int depth = (i + 1) / 2;
            int place = i % 2 == 1 ? (depth - 1) % 6 : depth % 6;
            int mark = (i % 2 == 1 ? 1 : 2) + (depth - 1) / 6;
            due("bear", x.bear(Math.max(0, i - 2), place, mark), 10 + i);
        }
        due("kin(18, 19)", x.kin(18, 19), 19);
        due("kin(19, 18)", x.kin(19, 18), 19);
        due("kin(1, 2)", x.kin(1, 2), 2);
        due("kin(1, 18)", x.kin(1, 18), 10);
        due("kin(1, 19)", x.kin(1, 19), 9);
        due("kin(2, 19)", x.kin(2, 19), 11);
        due("kin(17, 19)", x.kin(17, 19), 1);
        due("kin(0, 19)", x.kin(0, 19), 10);
    }

    static void p17NearestOfBoth() {
        sentence("through the nearest person of whom both come");
        SonMarks x = tribe();
        due("kin(5, 6), brothers", x.kin(5, 6), 2);
        due("kin(5, 9), cousins", x.kin(5, 9), 4);
        due("kin(5, 2), an uncle", x.kin(5, 2), 3);
        due("kin(5, 1), the father", x.kin(5, 1), 1);
        due("kin(5, 0)", x.kin(5, 0), 2);
        due("kin(1, 4), brothers", x.kin(1, 4), 2);
        due("kin(19, 5)", x.kin(19, 5), 4);
        due("kin(19, 17)", x.kin(19, 17), 2);
    }

    static void p17AnotherFounder() {
        sentence("there is none, if they do not come from the same founder");
        SonMarks x = roll("f000000;f444444;s0.0=1;s1.0=1;s2.1=1;s3.1=1");
        for (int one = 0; one < 6; one++) {
            for (int other = 0; other < 6; other++) {
                boolean near = one % 2 == other % 2;
                due("kin(" + one + ", " + other + ")", x.kin(one, other), near ? Math.abs(one - other) / 2 : NONE);
            }
        }
    }

    // ---- promise 18

    static void p18Shield() {
        sentence("`shield`: 0 to 15624");
        SonMarks x = roll("f000000;f444444");
        for (int shield : WRONG_SHIELDS) {
            due("bearer(" + shield + ")", x.bearer(shield), BAD);
        }
        due("bearer(0)", x.bearer(0), 0);
        due("bearer(1)", x.bearer(1), NONE);
        due("bearer(15623)", x.bearer(15623), NONE);
        due("bearer(15624)", x.bearer(15624), 1);
    }

    static void p18FirstAndLastPerson() {
        sentence("Returns the living person");
        SonMarks x = founders(20);
        for (int person = 0; person < 20; person++) {
            due("bearer(" + 31 * person + ")", x.bearer(31 * person), person);
            due("bearer(" + (31 * person + 1) + ")", x.bearer(31 * person + 1), NONE);
        }
    }

    static void p18NoLivingPerson() {
        sentence("NOT_FOUND if no living person bears it.");
        SonMarks x = roll("f000000;s0.0=1");
        due("bearer(0)", x.bearer(0), 0);
        due("die(0)", x.die(0), 11);
        due("bearer(0), a dead one bore it", x.bearer(0), NONE);
        due("inherit(1)", x.inherit(1), 11);
        due("bearer(0), the heir", x.bearer(0), 1);
        due("bearer(1), what he bore before", x.bearer(1), NONE);
        due("die(1)", x.die(1), 10);
        due("bearer(0), two dead ones bore it", x.bearer(0), NONE);
        due("found(0)", x.found(0), 12);
        due("bearer(0), the third one", x.bearer(0), 2);
    }

    // ---- promise 19

    static void p19Person() {
        sentence("`person`: a person");
        SonMarks x = three();
        for (int person : WRONG_PERSONS) {
            lines(x, person, 0, BAD);
            lines(x, person, 7, BAD);
        }
        lines(x, 0, 0, 0);
        lines(x, 2, 15624, 0);
        lines(x, 2, 15623, 1);
    }

    static void p19Shield() {
        sentence("`shield`: 0 to 15624");
        SonMarks x = roll("f100000;f344444");
        for (int shield : WRONG_SHIELDS) {
            lines(x, 0, shield, BAD);
        }
        lines(x, 0, 0, 1);
        lines(x, 0, 1, 0);
        lines(x, 0, 15624, 6);
        lines(x, 1, 15624, 1);
        lines(x, 1, 15623, 0);
        lines(x, 1, 0, 6);
    }

    static void p19Way() {
        sentence("`way`: 0: told from the person on; 1: told from the shield back");
        SonMarks x = three();
        int[] ways = {LEAST, -1, 2, 3, MOST};
        for (int way : ways) {
            due("line(0, 7, " + way + ")", x.line(0, 7, way), BAD);
            due("line(0, 0, " + way + "), his own", x.line(0, 0, way), BAD);
            due("line(0, 1, " + way + "), another's", x.line(0, 1, way), BAD);
        }
        lines(x, 0, 7, 2);
        lines(x, 0, 0, 0);
        lines(x, 0, 1, NONE);
    }

    static void p19DeadPerson() {
        sentence("NOT_POSSIBLE if the person is dead");
        SonMarks x = roll("f000000;f444444;d0");
        lines(x, 0, 0, NOT_POSSIBLE);
        lines(x, 0, 1, NOT_POSSIBLE);
        lines(x, 0, 15624, NOT_POSSIBLE);
        lines(x, 0, 15625, BAD);
        lines(x, 0, -1, BAD);
        due("line(0, 0, 2)", x.line(0, 0, 2), BAD);
        lines(x, 1, 0, 6);
        due("undo()", x.undo(), 0);
    }

    static void p19ThePersonBearsIt() {
        sentence("0 if the person bears the shield");
        SonMarks x = roll("f000000;s0.0=1;d0;h1");
        lines(x, 1, 0, 0);
        lines(x, 1, 1, 1);
        SonMarks y = grid();
        for (int person = 0; person < 20; person++) {
            lines(y, person, person, 0);
        }
    }

    static void p19OneToSixSons() {
        sentence("The fewest sons are as many as a shortest line has");
        SonMarks x = roll("f000000");
        int shield = 0;
        for (int sons = 1; sons <= 6; sons++) {
            shield = 5 * shield + 4;
            lines(x, 0, shield, sons);
        }
        lines(x, 0, 3, 1);
        lines(x, 0, 3125, 1);
        lines(x, 0, 15623, 6);
        lines(x, 0, 15620, 5);
    }

    static void p19AnotherBearsTheShield() {
        sentence("NOT_FOUND if there is no line.");
        SonMarks x = roll("f000000;s0.0=1;f444444");
        lines(x, 0, 1, NONE);
        lines(x, 1, 0, NONE);
        lines(x, 0, 15624, NONE);
        lines(x, 0, 2, 1);
        due("die(1)", x.die(1), 12);
        lines(x, 0, 1, 1);
        due("die(2)", x.die(2), 11);
        lines(x, 0, 15624, 6);
    }

    static void p19ShieldsOnTheWay() {
        sentence("the shield of none of them may be borne by a living person now");
        SonMarks x = roll("f000000;f100000");
        lines(x, 0, 6, 2);
        due("found(5), both ways are closed", x.found(5), 12);
        lines(x, 0, 6, 3);
        due("die(1), one way is open", x.die(1), 12);
        lines(x, 0, 6, 2);
        due("undo()", x.undo(), 2);
        lines(x, 0, 6, 3);
        lines(x, 1, 6, 1);
        lines(x, 1, 10, 2);
        lines(x, 0, 30, 2);
        lines(x, 0, 31, 3);
    }

    /** Between two places the fourth son is needed if all of the first ones towards the end are closed. */
    static void p19TwoSonsMoreThanPlaces() {
        sentence("The fewest sons are as many as a shortest line has");
        SonMarks x = new SonMarks();
        due("found(0)", x.found(0), 10);
        int[] walls = {1, 2, 3, 4, 5, 10, 15, 20};
        for (int i = 0; i < walls.length; i++) {
            lines(x, 0, 6, i <= 4 ? 2 : 3);
            due("found(" + walls[i] + ")", x.found(walls[i]), 11 + i);
        }
        lines(x, 0, 6, 4);
        due("die(8)", x.die(8), 18);
        lines(x, 0, 6, 3);
    }

    /** 19 others stand round the person: five of his 24 sons are left, none of them nearer to the end. */
    static void p19TwentyPersons() {
        sentence("the shield of none of them may be borne by a living person now");
        SonMarks x = new SonMarks();
        due("found(0)", x.found(0), 10);
        for (int i = 0; i < 19; i++) {
            int weight = i < 4 ? 1 : i < 8 ? 5 : i < 12 ? 25 : i < 16 ? 125 : 625;
            due("found", x.found(weight * (1 + i % 4)), 11 + i);
        }
        lines(x, 0, 6, 4);
        lines(x, 0, 31, 5);
        lines(x, 0, 156, 6);
        lines(x, 0, 156 + 625, 6);
        lines(x, 0, 156 + 4 * 625, 5);
        lines(x, 0, 3125, 1);
        lines(x, 0, 3125 + 1, 2);
        lines(x, 0, 3906, 6);
        lines(x, 0, 2500, 1);
        lines(x, 0, 625, NONE);
        due("count(0)", x.count(0), 20);
    }

    /** One of the two ways of two sons is closed: the other one leads over each shield in its turn. */
    static void p19EachShieldOnTheWay() {
        sentence("from a living person, sons one after the other, each of whom changes one mark");
        int[] weights = {1, 5, 25, 125, 625, 3125};
        for (int middle = 0; middle < 15625; middle += 7) {
            int first = weights[middle % 6] * (middle / weights[middle % 6] % 5 == 0 ? 1 : -1);
            int later = (middle + 1 + middle / 6 % 5) % 6;
            int second = weights[later] * (middle / weights[later] % 5 == 0 ? 1 : -1);
            SonMarks x = new SonMarks();
            due("found", x.found(middle + first), 10);
            due("found", x.found(middle + first + second), 11);
            lines(x, 0, middle + second, 2);
        }
    }

    static void p19CousinsAndSons() {
        sentence("(Cousins, and how many sons there are, do not matter.)");
        SonMarks x = roll("f000000;s0.0=1;s0.1=1;s0.2=1;s0.3=1;s1.4=1");
        due("whyNot(0, 4, 1), four sons", x.whyNot(0, 4, 1), 5);
        lines(x, 0, 625, 1);
        lines(x, 0, 1250, 1);
        due("whyNot(2, 4, 1), a cousin", x.whyNot(2, 4, 1), 4);
        lines(x, 2, 630, 1);
    }

    private static void lines(SonMarks x, int person, int shield, int want) {
        due("line(" + person + ", " + shield + ", 0)", x.line(person, shield, 0), want);
        due("line(" + person + ", " + shield + ", 1)", x.line(person, shield, 1), want);
    }

    // ---- promise 20

    static void p20What() {
        sentence("`what`: 0: persons; 1: living ones; 2: founders; 3: pairs of living persons who are confused");
        SonMarks x = three();
        int[] wrong = {LEAST, -1, 12, 13, MOST};
        for (int what : wrong) {
            due("count(" + what + ")", x.count(what), BAD);
            due("count(" + what + ") of a new object", new SonMarks().count(what), BAD);
        }
        due("count(0)", x.count(0), 3);
        due("count(11)", x.count(11), 1);
    }

    static void p20PersonsAndLivingOnes() {
        sentence("0: persons; 1: living ones; 2: founders");
        SonMarks x = new SonMarks();
        for (int i = 0; i < 20; i++) {
            persons(x, i, i, i);
            due("found", x.found(i), 10 + i);
        }
        persons(x, 20, 20, 20);
        due("found, an error", x.found(20), LIMIT);
        persons(x, 20, 20, 20);
        for (int i = 0; i < 20; i++) {
            due("die(" + i + ")", x.die(i), 29 - i);
            persons(x, 20, 19 - i, 20);
        }
        persons(chain(20), 20, 20, 1);
        persons(roll("f000000;s0.0=1;f444444;s2.0=1"), 4, 4, 2);
    }

    private static void persons(SonMarks x, int persons, int living, int founders) {
        due("count(0)", x.count(0), persons);
        due("count(1)", x.count(1), living);
        due("count(2)", x.count(2), founders);
    }

    static void p20ConfusedPairs() {
        sentence("Two living persons are confused, if their shields differ in just one place");
        due("count(3) of one", roll("f000000").count(3), 0);
        due("count(3), one place", roll("f000000;f100000").count(3), 1);
        due("count(3), two places", roll("f000000;f110000").count(3), 0);
        due("count(3), six places", roll("f000000;f111111").count(3), 0);
        due("count(3), the place 5", roll("f000000;f000004").count(3), 1);
        SonMarks x = grid();
        due("count(3) of the grid", x.count(3), 70);
        due("die(0)", x.die(0), 29);
        due("count(3), with one dead", x.count(3), 63);
        due("die(19)", x.die(19), 28);
        due("count(3), with two dead", x.count(3), 56);
    }

    static void p20FatherAndSonAreNotConfused() {
        sentence("and neither is the father of the other");
        SonMarks x = roll("f000000;s0.0=1");
        due("count(3), father and son", x.count(3), 0);
        due("bear(1, 0, 2), a son's son", x.bear(1, 0, 2), 12);
        due("count(3), the father's father", x.count(3), 1);
        due("bear(0, 0, 3), a brother and an uncle", x.bear(0, 0, 3), 13);
        due("count(3)", x.count(3), 3);
        due("die(0)", x.die(0), 13);
        due("count(3)", x.count(3), 2);
        due("inherit(1), the son of the heir lies one place away still", x.inherit(1), 11);
        due("count(3)", x.count(3), 2);
        SonMarks y = roll("f000000;s0.0=1;s1.1=1;d0;h1;s2.0=0");
        due("count(3): 3 is one place from 1, but no son", y.count(3), 1);
    }

    static void p20GreatestNumberOfSteps() {
        sentence("4: the greatest number of steps from a founder");
        for (int persons = 1; persons <= 20; persons += persons == 2 ? 17 : 1) {
            SonMarks x = chain(persons);
            due("count(4) of " + persons, x.count(4), persons - 1);
        }
        SonMarks x = roll("f000000;s0.0=1;s1.0=2;f444444;s3.0=1;d2");
        due("count(4), a dead one's steps", x.count(4), 2);
        due("count(4) of founders", founders(20).count(4), 0);
    }

    static void p20DifferentShields() {
        sentence("5: different shields of all persons");
        due("count(5) of 20", founders(20).count(5), 20);
        due("count(5) of 1", founders(1).count(5), 1);
        SonMarks x = roll("f000000;s0.0=1;s0.1=1");
        due("count(5)", x.count(5), 3);
        due("die(0)", x.die(0), 12);
        due("count(5), the dead as well", x.count(5), 3);
        due("inherit(1)", x.inherit(1), 11);
        due("count(5), two bear 0", x.count(5), 2);
        due("die(1)", x.die(1), 11);
        due("inherit(2)", x.inherit(2), 11);
        due("count(5), three bear 0", x.count(5), 1);
        due("found(1)", x.found(1), 13);
        due("count(5)", x.count(5), 2);
    }

    static void p20FarFromTheFather() {
        sentence("6: living persons whose shield differs from that of the father in more than one place");
        SonMarks x = roll("f000000;s0.0=1;s1.1=1;s1.2=1;s2.3=1");
        due("count(6), one place", x.count(6), 0);
        due("die(0)", x.die(0), 14);
        due("inherit(1)", x.inherit(1), 11);
        due("count(6), two places", x.count(6), 2);
        due("die(3)", x.die(3), 13);
        due("count(6), the dead do not count", x.count(6), 1);
        due("die(1), the father is dead", x.die(1), 12);
        due("count(6)", x.count(6), 1);
        due("inherit(2)", x.inherit(2), 12);
        due("count(6): 2 is as his father, 4 is three places away", x.count(6), 1);
        due("count(6) of founders", founders(20).count(6), 0);
    }

    static void p20NeverHadASon() {
        sentence("7: living persons who never had a son");
        due("count(7) of 20", founders(20).count(7), 20);
        due("count(7) of a chain", chain(20).count(7), 1);
        SonMarks x = roll("f000000;s0.0=1");
        due("count(7)", x.count(7), 1);
        due("die(1)", x.die(1), 11);
        due("count(7), his son is dead", x.count(7), 0);
        due("found(5)", x.found(5), 12);
        due("count(7)", x.count(7), 1);
        due("undo()", x.undo(), 2);
        due("undo()", x.undo(), 1);
        due("undo()", x.undo(), 0);
        due("found(5), no son yet", x.found(5), 10);
        due("count(7)", x.count(7), 1);
    }

    static void p20Heirs() {
        sentence("8: persons who became heirs so far");
        SonMarks x = roll("f000000;s0.0=1;s1.1=1");
        due("inherit(1), refused", x.inherit(1), 7);
        due("count(8)", x.count(8), 0);
        due("die(0)", x.die(0), 12);
        due("inherit(1)", x.inherit(1), 11);
        due("count(8)", x.count(8), 1);
        due("inherit(1), refused", x.inherit(1), 3);
        due("count(8)", x.count(8), 1);
        enrols(x, "d1;h2", 2);
        due("count(8)", x.count(8), 2);
        due("die(2)", x.die(2), 10);
        due("count(8), the dead as well", x.count(8), 2);
    }

    static void p20RefusedDeeds() {
        sentence("9: refused deeds so far");
        SonMarks x = roll("f000000");
        due("found(0)", x.found(0), 3);
        due("count(9)", x.count(9), 1);
        due("bear(0, 0, 0)", x.bear(0, 0, 0), 2);
        due("count(9)", x.count(9), 2);
        due("inherit(0)", x.inherit(0), 7);
        due("count(9)", x.count(9), 3);
        due("die(0)", x.die(0), 10);
        due("count(9), done", x.count(9), 3);
        due("die(0)", x.die(0), 6);
        due("count(9)", x.count(9), 4);
        enrols(x, "d0;d0", 0);
        due("count(9), in a roll", x.count(9), 5);
        due("whyNot(0, 0, 0)", x.whyNot(0, 0, 0), 1);
        due("choices(0, 0)", x.choices(0, 0), 0);
        due("best(0)", x.best(0), NONE);
        due("die(1), an error", x.die(1), BAD);
        due("inherit(0), an error", x.inherit(0), NOT_POSSIBLE);
        due("count(9)", x.count(9), 5);
    }

    static void p20LengthOfThePad() {
        sentence("10: the length of the pad");
        SonMarks x = new SonMarks();
        for (int length = 0; length < 60; length++) {
            due("count(10)", x.count(10), length);
            due("append", x.append('f'), length + 1);
        }
        due("count(10)", x.count(10), 60);
        due("append", x.append('f'), LIMIT);
        due("count(10)", x.count(10), 60);
        due("clear()", x.clear(), 60);
        due("count(10)", x.count(10), 0);
    }

    static void p20StatesInTheHistory() {
        sentence("11: states in the history");
        SonMarks x = new SonMarks();
        int[] wants = {0, 1, 2, 3, 4, 4, 4};
        for (int i = 0; i < 7; i++) {
            due("count(11)", x.count(11), wants[i]);
            due("found(" + i + ")", x.found(i), 10 + i);
        }
        for (int i = 3; i >= 0; i--) {
            due("undo()", x.undo(), i);
            due("count(11)", x.count(11), i);
        }
    }

    // ---- promise 21

    static void p21Place() {
        sentence("`place`: 0 to 5");
        SonMarks x = three();
        for (int place : WRONG_PLACES) {
            due("borne(" + place + ", 0)", x.borne(place, 0), BAD);
            due("borne(" + place + ", 4)", x.borne(place, 4), BAD);
        }
        for (int place = 0; place < 6; place++) {
            due("borne(" + place + ", 0)", x.borne(place, 0), place == 0 ? 1 : 2);
            due("borne(" + place + ", 4)", x.borne(place, 4), 1);
        }
    }

    static void p21Mark() {
        sentence("`mark`: 0 to 4");
        SonMarks x = three();
        for (int mark : WRONG_MARKS) {
            due("borne(0, " + mark + ")", x.borne(0, mark), BAD);
            due("borne(5, " + mark + ")", x.borne(5, mark), BAD);
        }
        int[] first = {1, 1, 0, 0, 1};
        int[] last = {2, 0, 0, 0, 1};
        for (int mark = 0; mark < 5; mark++) {
            due("borne(0, " + mark + ")", x.borne(0, mark), first[mark]);
            due("borne(5, " + mark + ")", x.borne(5, mark), last[mark]);
        }
    }

    static void p21NoneToTwenty() {
        sentence("Returns by how many living persons");
        SonMarks x = new SonMarks();
        for (int i = 0; i < 20; i++) {
            due("borne(5, 0)", x.borne(5, 0), i);
            due("found(" + i + ")", x.found(i), 10 + i);
        }
        due("borne(5, 0)", x.borne(5, 0), 20);
        due("borne(5, 1)", x.borne(5, 1), 0);
        due("borne(0, 4)", x.borne(0, 4), 4);
        due("borne(1, 3)", x.borne(1, 3), 5);
        due("borne(1, 4)", x.borne(1, 4), 0);
        due("die(19)", x.die(19), 29);
        due("borne(0, 4)", x.borne(0, 4), 3);
        due("borne(1, 3)", x.borne(1, 3), 4);
        due("borne(5, 0)", x.borne(5, 0), 19);
    }

    static void p21OfTheHeir() {
        sentence("Returns by how many living persons");
        SonMarks x = roll("f000000;s0.0=1;d0");
        due("borne(0, 0)", x.borne(0, 0), 0);
        due("borne(0, 1)", x.borne(0, 1), 1);
        due("inherit(1)", x.inherit(1), 11);
        due("borne(0, 0)", x.borne(0, 0), 1);
        due("borne(0, 1)", x.borne(0, 1), 0);
    }

    // ---- promise 22

    static void p22WithoutPairs() {
        sentence("0.0 without pairs.");
        SonMarks x = new SonMarks();
        dueDouble("unlike() of none", x.unlike(), 0.0);
        due("found(0)", x.found(0), 10);
        dueDouble("unlike() of one", x.unlike(), 0.0);
        due("found(1)", x.found(1), 11);
        dueDouble("unlike() of two", x.unlike(), 1.0);
        due("die(0)", x.die(0), 11);
        dueDouble("unlike() of one living", x.unlike(), 0.0);
        due("die(1)", x.die(1), 10);
        dueDouble("unlike() of the dead", x.unlike(), 0.0);
    }

    static void p22OneToSixPlaces() {
        sentence("the places in which the shields of two living persons differ, added up over all pairs");
        String[] others = {"f400000", "f440000", "f444000", "f444400", "f444440", "f444444"};
        for (int i = 0; i < 6; i++) {
            dueDouble("unlike() with " + others[i], roll("f000000;" + others[i]).unlike(), i + 1.0);
        }
        dueDouble("unlike() of three", roll("f000000;f100000;f444444").unlike(), 13.0 / 3.0);
        dueDouble("unlike() of father and son", roll("f000000;s0.0=1").unlike(), 1.0);
    }

    static void p22TwentyPersons() {
        sentence("as a double, divided by the number of pairs");
        SonMarks x = grid();
        dueDouble("unlike() of 20", x.unlike(), 310.0 / 190.0);
        due("die(0)", x.die(0), 29);
        dueDouble("unlike() of 19", x.unlike(), (310.0 - 7.0 - 24.0) / 171.0);
    }

    // ---- promise 23

    static void p23Person() {
        sentence("`person`: a living person");
        SonMarks x = three();
        for (int person : WRONG_PERSONS) {
            for (int what = -1; what <= 3; what++) {
                due("ifDead(" + person + ", " + what + ")", x.ifDead(person, what), BAD);
            }
        }
        due("ifDead(0, 0)", x.ifDead(0, 0), 1);
        due("ifDead(2, 0)", x.ifDead(2, 0), NONE);
        SonMarks full = founders(20);
        due("ifDead(19, 0) of 20", full.ifDead(19, 0), NONE);
        due("ifDead(20, 0) of 20", full.ifDead(20, 0), BAD);
    }

    static void p23What() {
        sentence("`what`: 0: who could become heir of this person then, NOT_FOUND if none; 1: how many pairs would be confused;");
        SonMarks x = three();
        int[] wrong = {LEAST, -1, 3, 4, MOST};
        for (int what : wrong) {
            due("ifDead(0, " + what + ")", x.ifDead(0, what), BAD);
            due("ifDead(2, " + what + ")", x.ifDead(2, what), BAD);
        }
        due("ifDead(0, 0)", x.ifDead(0, 0), 1);
        due("ifDead(0, 1)", x.ifDead(0, 1), 0);
        due("ifDead(0, 2)", x.ifDead(0, 2), 48);
        due("ifDead(2, 2)", x.ifDead(2, 2), 46);
    }

    static void p23DeadPerson() {
        sentence("NOT_POSSIBLE if the person is dead.");
        SonMarks x = roll("f000000;s0.0=1;d0");
        for (int what = 0; what <= 2; what++) {
            due("ifDead(0, " + what + ")", x.ifDead(0, what), NOT_POSSIBLE);
        }
        due("ifDead(0, -1)", x.ifDead(0, -1), BAD);
        due("ifDead(0, 3)", x.ifDead(0, 3), BAD);
        due("ifDead(1, 0)", x.ifDead(1, 0), NONE);
        due("ifDead(1, 1)", x.ifDead(1, 1), 0);
        due("ifDead(1, 2), none lives then", x.ifDead(1, 2), 0);
    }

    static void p23Heir() {
        sentence("0: who could become heir of this person then, NOT_FOUND if none");
        SonMarks x = roll("f000000");
        due("ifDead(0, 0), no son", x.ifDead(0, 0), NONE);
        enrols(x, "s0.0=1;s0.1=1;s0.2=1;s0.3=1;s1.4=1", 5);
        for (int son = 1; son <= 4; son++) {
            due("ifDead(0, 0)", x.ifDead(0, 0), son);
            due("die(" + son + ")", x.die(son), 16 - son);
        }
        due("ifDead(0, 0), four dead sons", x.ifDead(0, 0), NONE);
        due("ifDead(5, 0)", x.ifDead(5, 0), NONE);
        due("undo()", x.undo(), 3);
        due("ifDead(0, 0)", x.ifDead(0, 0), 4);
    }

    /** 1 has left his shield of birth to another one: no one bears what he bears, when he is dead. */
    static void p23HeirOfAnHeir() {
        sentence("0: who could become heir of this person then, NOT_FOUND if none");
        SonMarks x = roll("f000000;s0.0=1;s1.1=1;d0;h1;f100000");
        due("ifDead(1, 0)", x.ifDead(1, 0), 2);
        due("ifDead(2, 0)", x.ifDead(2, 0), NONE);
        due("ifDead(3, 0)", x.ifDead(3, 0), NONE);
        due("die(1)", x.die(1), 12);
        due("inherit(2)", x.inherit(2), 12);
    }

    static void p23ConfusedPairs() {
        sentence("1: how many pairs would be confused");
        SonMarks x = grid();
        due("ifDead(0, 1)", x.ifDead(0, 1), 63);
        due("ifDead(19, 1)", x.ifDead(19, 1), 63);
        due("count(3), nothing is changed", x.count(3), 70);
        SonMarks y = roll("f000000;s0.0=1;s0.0=2;s0.0=3");
        due("count(3)", y.count(3), 3);
        due("ifDead(0, 1), father and sons were not", y.ifDead(0, 1), 3);
        due("ifDead(1, 1)", y.ifDead(1, 1), 1);
        due("ifDead(0, 1) of one", roll("f000000").ifDead(0, 1), 0);
    }

    static void p23ChangesThatWouldBeLeft() {
        sentence("2: how many changes would be left to all persons who live then together, added up");
        due("ifDead(0, 2) of one", roll("f000000").ifDead(0, 2), 0);
        due("ifDead(0, 2) of two", roll("f000000;f100000").ifDead(0, 2), 24);
        due("ifDead(0, 2) of 20", founders(20).ifDead(0, 2), 19 * 24);
        SonMarks x = roll("f000000;s0.0=1;s0.1=1;s1.2=1");
        due("choices(2, 0): the place 2 is a cousin's, 0 is the father's", x.choices(2, 0), 19);
        due("ifDead(3, 2), no cousin lives then", x.ifDead(3, 2), 22 + 23 + 23);
        due("ifDead(0, 2)", x.ifDead(0, 2), 23 + 20 + 23);
        SonMarks y = roll("f000000;s0.0=1;s0.1=1;s0.2=1;s0.3=1");
        due("ifDead(1, 2), four sons with the dead one", y.ifDead(1, 2), 3 * 23);
        due("ifDead(0, 2)", y.ifDead(0, 2), 4 * 24);
    }

    static void p23AsAfterADeath() {
        sentence("Tells what a death would bring.");
        for (int person = 0; person < 20; person++) {
            SonMarks x = tribe();
            int heir = x.ifDead(person, 0);
            int confused = x.ifDead(person, 1);
            int left = x.ifDead(person, 2);
            due("die(" + person + ")", x.die(person), 29);
            due("count(3) after " + person, x.count(3), confused);
            int sum = 0;
            for (int i = 0; i < 20; i++) {
                sum += x.choices(i, 0);
            }
            due("choices after " + person, sum, left);
            int[] heirs = {1, 5, 9, 13, 17};
            due("ifDead(" + person + ", 0)", heir, person < 5 ? heirs[person] : NONE);
        }
    }

    static void p23NothingIsChanged() {
        sentence("what would be; nothing is changed");
        SonMarks x = three();
        due("save()", x.save(), 3);
        String before = told(x);
        for (int what = -1; what <= 3; what++) {
            due("ifDead(0, " + what + ")", x.ifDead(0, what) == BAD ? 1 : 0, what < 0 || what > 2 ? 1 : 0);
            same("after ifDead(0, " + what + ")", told(x), before);
        }
        due("undo()", x.undo(), 0);
        due("count(0)", x.count(0), 0);
        due("restore()", x.restore(), 3);
        due("person(0, 1)", x.person(0, 1), 1);
    }

    static void p23AllLooksChangeNothing() {
        sentence("looks; nothing is changed");
        SonMarks x = roll("f000000;s0.0=1;s0.1=1;d0");
        enrols(x, "f000000;d0", 1);
        write(x, "f0");
        String before = told(x);
        for (int person = -1; person <= 4; person++) {
            x.mark(person, 0);
            x.whyNot(person, 1, 1);
            x.choices(person, 0);
            x.choices(person, 1);
            x.best(person);
            x.differs(person, 1);
            x.kin(person, 2);
            x.line(person, 7, 0);
            x.line(person, 7, 1);
            x.ifDead(person, 0);
            x.ifDead(person, 1);
            x.ifDead(person, 2);
        }
        x.bearer(0);
        x.borne(0, 0);
        x.unlike();
        same("after all looks", told(x), before);
        due("undo()", x.undo(), 1);
        due("count(9)", x.count(9), 0);
        due("undo()", x.undo(), 0);
        due("count(0)", x.count(0), 0);
    }
}
