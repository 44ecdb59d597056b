/** The boundary cases of the promises 1 to 5: a new object, founders, sons, deaths, heirs. */
public final class DeedEdgesTest extends Edges {
    public static void main(String[] args) {
        runAll(DeedEdgesTest.class, 1, 5);
    }

    // ---- promise 1

    static void p01WithoutPersons() {
        sentence("Creates a roll without persons.");
        SonMarks x = new SonMarks();
        for (int what = 0; what <= 11; what++) {
            due("count(" + what + ")", x.count(what), 0);
        }
        int[] persons = {-1, 0, 1, 19, 20};
        for (int person : persons) {
            due("person(" + person + ", 1)", x.person(person, 1), BAD);
            due("mark(" + person + ", 0)", x.mark(person, 0), BAD);
            due("whyNot(" + person + ", 0, 1)", x.whyNot(person, 0, 1), BAD);
            due("choices(" + person + ", 0)", x.choices(person, 0), BAD);
            due("choices(" + person + ", 1)", x.choices(person, 1), BAD);
            due("best(" + person + ")", x.best(person), BAD);
            due("differs(" + person + ", 0)", x.differs(person, 0), BAD);
            due("kin(" + person + ", 0)", x.kin(person, 0), BAD);
            due("line(" + person + ", 0, 0)", x.line(person, 0, 0), BAD);
            due("ifDead(" + person + ", 0)", x.ifDead(person, 0), BAD);
            due("bear(" + person + ", 0, 1)", x.bear(person, 0, 1), BAD);
            due("die(" + person + ")", x.die(person), BAD);
            due("inherit(" + person + ")", x.inherit(person), BAD);
        }
        due("bearer(0)", x.bearer(0), NONE);
        due("bearer(15624)", x.bearer(15624), NONE);
        due("borne(0, 0)", x.borne(0, 0), 0);
        due("borne(5, 4)", x.borne(5, 4), 0);
        dueDouble("unlike()", x.unlike(), 0.0);
        due("count(11)", x.count(11), 0);
        due("save()", x.save(), 0);
        due("found(0), the first one", x.found(0), 10);
    }

    static void p01NoPadNoHistoryNoSnapshot() {
        sentence("There is a pad of at most 60 characters, initially empty.");
        SonMarks x = new SonMarks();
        due("fault()", x.fault(), 0);
        due("count(10)", x.count(10), 0);
        due("enrol()", x.enrol(), NOT_POSSIBLE);
        due("why(0)", x.why(0), NONE);
        due("clear()", x.clear(), 0);
        due("undo()", x.undo(), NOT_POSSIBLE);
        due("restore()", x.restore(), NOT_POSSIBLE);
        due("append(100)", x.append(100), 1);
    }

    static void p01Constants() {
        sentence("The constants:");
        due("INVALID_ARGUMENT", SonMarks.INVALID_ARGUMENT, -1);
        due("NOT_POSSIBLE", SonMarks.NOT_POSSIBLE, -2);
        due("LIMIT_REACHED", SonMarks.LIMIT_REACHED, -3);
        due("NOT_FOUND", SonMarks.NOT_FOUND, -4);
    }

    static void p01EachObjectForItself() {
        sentence("Creates a roll without persons.");
        SonMarks x = roll("f000000;f000001;d0");
        due("save()", x.save(), 1);
        due("append(102)", x.append(102), 1);
        SonMarks y = new SonMarks();
        due("count(0) of another one", y.count(0), 0);
        due("count(10) of another one", y.count(10), 0);
        due("count(11) of another one", y.count(11), 0);
        due("restore() of another one", y.restore(), NOT_POSSIBLE);
        due("found(0) of another one", y.found(0), 10);
        due("count(0)", x.count(0), 2);
        due("restore()", x.restore(), 1);
    }

    static void p01UsedFor512Calls() {
        sentence("An object is used for at most 512 calls after it has been made");
        SonMarks x = new SonMarks();
        for (int call = 1; call <= 510; call++) {
            int shield = call * 30 % 15625;
            if (call <= 20) {
                due("call " + call + ", found(" + shield + ")", x.found(shield), 9 + call);
            } else if (call % 2 == 0) {
                due("call " + call + ", found(" + shield + ")", x.found(shield), LIMIT);
            } else {
                due("call " + call + ", found(30)", x.found(30), LIMIT);
            }
        }
        due("call 511, die(19)", x.die(19), 29);
        due("call 512, undo()", x.undo(), 3);
    }

    // ---- promise 2

    static void p02LeastShield() {
        sentence("`shield`: 0 to 15624");
        SonMarks x = new SonMarks();
        due("found(MIN)", x.found(LEAST), BAD);
        due("found(-15625)", x.found(-15625), BAD);
        due("found(-1)", x.found(-1), BAD);
        due("count(0)", x.count(0), 0);
        due("found(0)", x.found(0), 10);
        due("found(1)", x.found(1), 11);
        due("person(0, 0)", x.person(0, 0), 0);
        due("person(1, 0)", x.person(1, 0), 1);
    }

    static void p02GreatestShield() {
        sentence("`shield`: 0 to 15624");
        SonMarks x = new SonMarks();
        due("found(MAX)", x.found(MOST), BAD);
        due("found(15626)", x.found(15626), BAD);
        due("found(15625)", x.found(15625), BAD);
        due("count(0)", x.count(0), 0);
        due("found(15624)", x.found(15624), 10);
        due("found(15623)", x.found(15623), 11);
        due("person(0, 0)", x.person(0, 0), 15624);
        due("person(1, 0)", x.person(1, 0), 15623);
    }

    static void p02WeightsOfPlaces() {
        sentence("As a number it is the sum of each mark times 5 to the power of its place: 0 to 15624.");
        SonMarks x = new SonMarks();
        int weight = 1;
        for (int place = 0; place < 6; place++) {
            due("found(" + (weight - 1) + ")", x.found(weight - 1), 10 + 2 * place);
            due("found(" + 3 * weight + ")", x.found(3 * weight), 11 + 2 * place);
            for (int at = 0; at < 6; at++) {
                due("mark of " + (weight - 1), x.mark(2 * place, at), at < place ? 4 : 0);
                due("mark of " + 3 * weight, x.mark(2 * place + 1, at), at == place ? 3 : 0);
            }
            weight *= 5;
        }
    }

    static void p02NumberOfThePerson() {
        sentence("Returns 10 and the number of the person");
        SonMarks x = new SonMarks();
        due("found(5), the first", x.found(5), 10);
        due("found(5), refused", x.found(5), 3);
        due("found(-1), an error", x.found(-1), BAD);
        due("found(4), the second", x.found(4), 11);
        due("bear(0, 1, 2), the third", x.bear(0, 1, 2), 12);
        due("die(1)", x.die(1), 12);
        due("found(4), the fourth", x.found(4), 13);
        due("undo()", x.undo(), 3);
        due("found(6), the fourth again", x.found(6), 13);
        due("person(3, 0)", x.person(3, 0), 6);
    }

    static void p02TwentyPersons() {
        sentence("LIMIT_REACHED if there are 20 persons.");
        SonMarks x = founders(18);
        due("found(15622), the 19th", x.found(15622), 28);
        due("found(15623), the 20th", x.found(15623), 29);
        due("found(15624), the 21st", x.found(15624), LIMIT);
        due("found(15624) again", x.found(15624), LIMIT);
        due("count(0)", x.count(0), 20);
        due("count(9), an error is not counted", x.count(9), 0);
        due("undo()", x.undo(), 3);
        due("found(15624), the 20th again", x.found(15624), 29);
        due("person(19, 0)", x.person(19, 0), 15624);
        due("found(1)", x.found(1), LIMIT);
    }

    static void p02TwentyDead() {
        sentence("none ever goes out of the roll");
        SonMarks x = founders(20);
        for (int i = 0; i < 20; i++) {
            due("die(" + i + ")", x.die(i), 29 - i);
        }
        due("found(0), all are dead", x.found(0), LIMIT);
        due("bear(0, 0, 1), all are dead", x.bear(0, 0, 1), LIMIT);
        due("count(0)", x.count(0), 20);
        due("person(19, 0)", x.person(19, 0), 589);
    }

    static void p02ErrorsAheadOfReasons() {
        sentence("Errors are looked at ahead of reasons.");
        SonMarks x = founders(20);
        due("found(0), borne by a living person", x.found(0), LIMIT);
        due("found(-1)", x.found(-1), BAD);
        due("found(15625)", x.found(15625), BAD);
        due("count(9)", x.count(9), 0);
    }

    static void p02BorneByTheLiving() {
        sentence("It is refused for the reason 3, if a living person bears it.");
        SonMarks x = roll("f432101");
        int shield = x.person(0, 0);
        due("found, borne", x.found(shield), 3);
        due("found, one less", x.found(shield - 1), 11);
        due("found, one more", x.found(shield + 1), 12);
        due("die(0)", x.die(0), 12);
        due("found, borne by the dead", x.found(shield), 13);
        due("found, borne by the living again", x.found(shield), 3);
        due("count(0)", x.count(0), 4);
        due("count(9)", x.count(9), 2);
    }

    static void p02BorneByHeirs() {
        sentence("It is refused for the reason 3, if a living person bears it.");
        SonMarks x = roll("f000000;s0.0=1;d0;h1");
        due("found(0), the heir's shield", x.found(0), 3);
        due("found(1), the heir's shield at birth", x.found(1), 12);
    }

    static void p02RefusalIsAChange() {
        sentence("what is refused for a reason is one, too (it is counted)");
        SonMarks x = roll("f000000");
        due("count(11)", x.count(11), 1);
        due("found(0)", x.found(0), 3);
        due("count(9)", x.count(9), 1);
        due("count(11)", x.count(11), 2);
        due("found(15625), an error", x.found(15625), BAD);
        due("count(9)", x.count(9), 1);
        due("count(11)", x.count(11), 2);
        due("undo()", x.undo(), 1);
        due("count(9)", x.count(9), 0);
        due("count(0)", x.count(0), 1);
    }

    // ---- promise 3

    static void p03Father() {
        sentence("`father`: a person");
        SonMarks x = roll("f000000;s0.0=1");
        due("bear(MIN, 1, 1)", x.bear(LEAST, 1, 1), BAD);
        due("bear(-1, 1, 1)", x.bear(-1, 1, 1), BAD);
        due("bear(2, 1, 1)", x.bear(2, 1, 1), BAD);
        due("bear(3, 1, 1)", x.bear(3, 1, 1), BAD);
        due("bear(19, 1, 1)", x.bear(19, 1, 1), BAD);
        due("bear(20, 1, 1)", x.bear(20, 1, 1), BAD);
        due("bear(MAX, 1, 1)", x.bear(MOST, 1, 1), BAD);
        due("bear(0, 1, 1)", x.bear(0, 1, 1), 12);
        due("bear(2, 2, 1)", x.bear(2, 2, 1), 13);
        due("bear(3, 2, 2)", x.bear(3, 2, 2), 14);
        due("bear(5, 3, 1)", x.bear(5, 3, 1), BAD);
        due("person(2, 2)", x.person(2, 2), 0);
        due("person(3, 2)", x.person(3, 2), 2);
        due("person(4, 2)", x.person(4, 2), 3);
    }

    static void p03Place() {
        sentence("`place`: 0 to 5");
        SonMarks x = roll("f111111");
        int shield = x.person(0, 0);
        due("bear(0, MIN, 2)", x.bear(0, LEAST, 2), BAD);
        due("bear(0, -1, 2)", x.bear(0, -1, 2), BAD);
        due("bear(0, 6, 2)", x.bear(0, 6, 2), BAD);
        due("bear(0, 7, 2)", x.bear(0, 7, 2), BAD);
        due("bear(0, MAX, 2)", x.bear(0, MOST, 2), BAD);
        due("count(0)", x.count(0), 1);
        int[] places = {0, 1, 4, 5};
        int[] weights = {1, 5, 625, 3125};
        for (int i = 0; i < 4; i++) {
            due("bear(0, " + places[i] + ", 2)", x.bear(0, places[i], 2), 11 + i);
            due("his shield", x.person(i + 1, 0), shield + weights[i]);
            due("his place", x.person(i + 1, 3), places[i]);
            due("his mark", x.person(i + 1, 4), 2);
        }
    }

    static void p03Mark() {
        sentence("`mark`: 0 to 4");
        SonMarks x = roll("f222222");
        int shield = x.person(0, 0);
        due("bear(0, 1, MIN)", x.bear(0, 1, LEAST), BAD);
        due("bear(0, 1, -1)", x.bear(0, 1, -1), BAD);
        due("bear(0, 1, 5)", x.bear(0, 1, 5), BAD);
        due("bear(0, 1, 6)", x.bear(0, 1, 6), BAD);
        due("bear(0, 1, MAX)", x.bear(0, 1, MOST), BAD);
        due("count(0)", x.count(0), 1);
        int[] marks = {0, 1, 3, 4};
        for (int i = 0; i < 4; i++) {
            due("bear(0, 1, " + marks[i] + ")", x.bear(0, 1, marks[i]), 11 + i);
            due("his shield", x.person(i + 1, 0), shield + 5 * (marks[i] - 2));
            due("his mark", x.person(i + 1, 4), marks[i]);
        }
    }

    static void p03TwentyPersons() {
        sentence("LIMIT_REACHED if there are 20 persons.");
        SonMarks x = founders(18);
        due("bear(17, 5, 1), the 19th", x.bear(17, 5, 1), 28);
        due("bear(18, 4, 4), the 20th", x.bear(18, 4, 4), 29);
        due("bear(19, 3, 3), the 21st", x.bear(19, 3, 3), LIMIT);
        due("bear(0, 5, 4), the 21st", x.bear(0, 5, 4), LIMIT);
        due("count(0)", x.count(0), 20);
        due("undo()", x.undo(), 3);
        due("bear(0, 5, 4), the 20th again", x.bear(0, 5, 4), 29);
        due("person(19, 2)", x.person(19, 2), 0);
    }

    static void p03ErrorsAheadOfReasons() {
        sentence("Errors are looked at ahead of reasons.");
        SonMarks x = founders(20);
        due("die(1)", x.die(1), 29);
        due("bear(1, 5, 4), a dead father", x.bear(1, 5, 4), LIMIT);
        due("bear(0, 0, 0), the mark is there", x.bear(0, 0, 0), LIMIT);
        due("bear(20, 0, 0), no person", x.bear(20, 0, 0), BAD);
        due("bear(-1, 0, 0), no person", x.bear(-1, 0, 0), BAD);
        due("bear(1, 6, 0), no place", x.bear(1, 6, 0), BAD);
        due("bear(1, 0, 5), no mark", x.bear(1, 0, 5), BAD);
        due("count(9)", x.count(9), 0);
        SonMarks y = roll("f000000;d0");
        due("bear(0, 6, 0) of a dead one", y.bear(0, 6, 0), BAD);
        due("bear(0, 0, 5) of a dead one", y.bear(0, 0, 5), BAD);
    }

    /** For 1 the four reasons but the first are so: from 2 on, each change leaves out one more of them. */
    static void p03FirstOfTheReasons() {
        sentence("It is refused for the first of these reasons that is so");
        SonMarks x = roll("f000000;s0.0=1;s0.1=1;s1.2=1;s1.3=1", "s1.4=1;s1.5=1;s2.0=2");
        due("bear(1, 0, 1): 2, 3, 4, 5 are so", x.bear(1, 0, 1), 2);
        due("bear(1, 0, 0): 3, 4, 5 are so", x.bear(1, 0, 0), 3);
        due("bear(1, 0, 2): 4, 5 are so", x.bear(1, 0, 2), 4);
        due("bear(1, 1, 2): 5 is so", x.bear(1, 1, 2), 5);
        due("bear(1, 1, 1): 3, 5 are so", x.bear(1, 1, 1), 5);
        due("found(6)", x.found(6), 18);
        due("bear(1, 1, 1): 3, 5 are so now", x.bear(1, 1, 1), 3);
        due("bear(1, 1, 0): 2, 3, 5 are so", x.bear(1, 1, 0), 2);
        due("die(1)", x.die(1), 18);
        due("bear(1, 0, 1): 1, 2, 4, 5 are so", x.bear(1, 0, 1), 1);
        due("bear(1, 0, 0): 1, 3, 4, 5 are so", x.bear(1, 0, 0), 1);
        due("bear(1, 0, 2): 1, 4, 5 are so", x.bear(1, 0, 2), 1);
        due("bear(1, 1, 2): 1, 5 are so", x.bear(1, 1, 2), 1);
        due("count(9)", x.count(9), 11);
    }

    static void p03FatherIsDead() {
        sentence("1: the father is dead");
        SonMarks x = roll("f000000;s0.0=1");
        due("bear(0, 1, 1), he lives", x.bear(0, 1, 1), 12);
        due("die(0)", x.die(0), 12);
        due("bear(0, 2, 1), he is dead", x.bear(0, 2, 1), 1);
        due("bear(1, 2, 1), his son lives", x.bear(1, 2, 1), 13);
        due("undo()", x.undo(), 3);
        due("undo()", x.undo(), 2);
        due("undo()", x.undo(), 1);
        due("bear(0, 2, 1), he lives again", x.bear(0, 2, 1), 13);
    }

    static void p03MarkIsThere() {
        sentence("2: the father's shield has this mark at this place already");
        SonMarks x = roll("f012340");
        int[] marks = {0, 1, 2, 3, 4, 0};
        for (int place = 0; place < 6; place++) {
            for (int mark = 0; mark < 5; mark++) {
                int want = mark == marks[place] ? 2 : 11;
                due("bear(0, " + place + ", " + mark + ")", x.bear(0, place, mark), want);
                due("undo()", x.undo() >= 0 ? 1 : 0, 1);
            }
        }
    }

    static void p03MarkOfTheHeirIsThere() {
        sentence("2: the father's shield has this mark at this place already");
        SonMarks x = roll("f000000;s0.0=1;d0;h1");
        due("bear(1, 0, 0), the heir's mark", x.bear(1, 0, 0), 2);
        due("bear(1, 0, 1), his mark at birth", x.bear(1, 0, 1), 12);
        due("person(2, 0)", x.person(2, 0), 1);
    }

    static void p03ShieldIsBorne() {
        sentence("3: a living person bears the shield");
        SonMarks x = roll("f000000;f300000");
        due("bear(0, 0, 2), one less", x.bear(0, 0, 2), 12);
        due("bear(0, 0, 3), a founder bears it", x.bear(0, 0, 3), 3);
        due("bear(0, 0, 4), one more", x.bear(0, 0, 4), 13);
        due("bear(0, 0, 2), a brother bears it", x.bear(0, 0, 2), 3);
        due("bear(2, 0, 0), the father's father bears it", x.bear(2, 0, 0), 3);
        due("die(1)", x.die(1), 13);
        due("bear(0, 0, 3), a dead one bore it", x.bear(0, 0, 3), 14);
    }

    static void p03LivingCousin() {
        sentence("4: a living cousin that he would have changed a mark at this place at birth");
        SonMarks x = roll("f000000;s0.0=1;s0.1=1;s1.3=2");
        due("bear(2, 2, 2), the place before", x.bear(2, 2, 2), 14);
        due("bear(2, 4, 2), the place after", x.bear(2, 4, 2), 15);
        due("bear(2, 3, 2)", x.bear(2, 3, 2), 4);
        due("bear(2, 3, 1), another mark", x.bear(2, 3, 1), 4);
        due("bear(2, 3, 4), another mark", x.bear(2, 3, 4), 4);
        due("bear(1, 3, 4), he is a brother", x.bear(1, 3, 4), 16);
        due("die(3)", x.die(3), 16);
        due("bear(2, 3, 2), one of two cousins is dead", x.bear(2, 3, 2), 4);
        due("die(6)", x.die(6), 15);
        due("bear(2, 3, 2), both are dead", x.bear(2, 3, 2), 17);
        due("bear(1, 2, 4), the other way", x.bear(1, 2, 4), 4);
        due("bear(1, 3, 4), the other way", x.bear(1, 3, 4), 4);
    }

    static void p03CousinsOfDeadUncles() {
        sentence("Cousins are persons whose fathers are brothers (and not the same).");
        SonMarks x = roll("f000000;s0.0=1;s0.1=1;s1.2=1;d1;d0");
        due("bear(2, 2, 2), the uncle and the father's father are dead", x.bear(2, 2, 2), 4);
        due("bear(2, 3, 2)", x.bear(2, 3, 2), 14);
    }

    static void p03CousinsOfAllUncles() {
        sentence("Cousins are persons whose fathers are brothers (and not the same).");
        SonMarks x = roll("f000000;s0.0=1;s0.1=1;s0.2=1;s0.3=1", "s1.0=2;s3.2=2;s4.3=2");
        due("bear(2, 0, 4), the first uncle's son", x.bear(2, 0, 4), 4);
        due("bear(2, 2, 4), the second uncle's son", x.bear(2, 2, 4), 4);
        due("bear(2, 3, 4), the last uncle's son", x.bear(2, 3, 4), 4);
        due("bear(2, 1, 4)", x.bear(2, 1, 4), 18);
    }

    static void p03NoCousins() {
        sentence("Cousins are persons whose fathers are brothers (and not the same).");
        SonMarks x = roll("f000000;s0.0=1;s0.1=1;s1.2=1;s2.3=1;s3.4=1");
        due("bear(4, 4, 2), a second cousin", x.bear(4, 4, 2), 16);
        due("bear(3, 3, 2), the father's cousin", x.bear(3, 3, 2), 17);
        due("bear(1, 1, 2), an uncle", x.bear(1, 1, 2), 18);
        due("bear(0, 2, 2), a nephew", x.bear(0, 2, 2), 19);
        due("bear(1, 0, 2), the father himself", x.bear(1, 0, 2), 20);
        due("bear(0, 4, 2), a brother's son's son", x.bear(0, 4, 2), 21);
        SonMarks y = roll("f000000;f111111;s0.0=2;s0.1=2;s1.0=0");
        due("founders are no brothers: bear(1, 1, 2)", y.bear(1, 1, 2), 15);
        due("nor are their sons cousins: bear(3, 2, 1)", y.bear(3, 2, 1), 16);
        due("bear(4, 2, 2)", y.bear(4, 2, 2), 17);
    }

    static void p03CousinWhoIsHeir() {
        sentence("this stays known, also if the shield becomes another one later");
        SonMarks x = roll("f000000;s0.0=1;s0.1=1;s1.2=1;d1;h3");
        due("person(3, 0)", x.person(3, 0), 1);
        due("bear(2, 2, 2)", x.bear(2, 2, 2), 4);
        due("bear(2, 0, 2)", x.bear(2, 0, 2), 14);
    }

    static void p03FourSons() {
        sentence("5: the father has 4 sons (living or not)");
        SonMarks x = roll("f000000;s0.0=1;s0.1=1;s0.2=1");
        due("bear(0, 3, 1), the fourth", x.bear(0, 3, 1), 14);
        due("bear(0, 4, 1), the fifth", x.bear(0, 4, 1), 5);
        due("bear(1, 4, 1), a son's son", x.bear(1, 4, 1), 15);
        due("undo()", x.undo(), 3);
        due("undo()", x.undo(), 2);
        due("undo()", x.undo(), 1);
        due("bear(0, 4, 1), the fourth again", x.bear(0, 4, 1), 14);
        due("bear(0, 3, 1), the fifth", x.bear(0, 3, 1), 5);
    }

    static void p03FourDeadSons() {
        sentence("5: the father has 4 sons (living or not)");
        SonMarks x = roll("f000000;s0.0=1;s0.1=1;d1;d2;s0.2=1;d3");
        due("bear(0, 0, 1), the fourth after three dead ones", x.bear(0, 0, 1), 14);
        due("die(4)", x.die(4), 11);
        due("bear(0, 4, 1), the fifth after four dead ones", x.bear(0, 4, 1), 5);
    }

    static void p03ShieldOfTheFatherNow() {
        sentence("his shield is that of the father, with this mark at this place");
        SonMarks x = roll("f000000;s0.0=1;s1.1=1;d0;h1");
        due("bear(1, 2, 4)", x.bear(1, 2, 4), 13);
        due("person(3, 0), of the shield that was taken up", x.person(3, 0), 100);
        due("person(2, 0), from before", x.person(2, 0), 6);
        due("bear(2, 5, 4)", x.bear(2, 5, 4), 14);
        due("person(4, 0)", x.person(4, 0), 12506);
    }

    static void p03RefusalIsAChange() {
        sentence("what is refused for a reason is one, too (it is counted)");
        SonMarks x = roll("f000000");
        due("bear(0, 0, 0)", x.bear(0, 0, 0), 2);
        due("count(9)", x.count(9), 1);
        due("count(11)", x.count(11), 2);
        due("bear(0, 0, 5)", x.bear(0, 0, 5), BAD);
        due("count(9)", x.count(9), 1);
        due("count(11)", x.count(11), 2);
        due("undo()", x.undo(), 1);
        due("count(9)", x.count(9), 0);
    }

    // ---- promise 4

    static void p04Person() {
        sentence("`person`: a person");
        SonMarks x = founders(3);
        due("die(MIN)", x.die(LEAST), BAD);
        due("die(-1)", x.die(-1), BAD);
        due("die(3)", x.die(3), BAD);
        due("die(4)", x.die(4), BAD);
        due("die(20)", x.die(20), BAD);
        due("die(MAX)", x.die(MOST), BAD);
        due("count(11)", x.count(11), 3);
        due("die(0)", x.die(0), 12);
        due("die(2)", x.die(2), 11);
        due("person(1, 1)", x.person(1, 1), 1);
        due("person(2, 1)", x.person(2, 1), 0);
        SonMarks full = founders(20);
        due("die(19), the last of 20", full.die(19), 29);
        due("die(20) of 20", full.die(20), BAD);
    }

    static void p04HowManyLiveStill() {
        sentence("Returns 10 and how many persons live still");
        SonMarks x = founders(20);
        for (int i = 0; i < 20; i++) {
            due("die(" + (19 - i) + ")", x.die(19 - i), 29 - i);
            due("count(1)", x.count(1), 19 - i);
        }
        due("count(0)", x.count(0), 20);
        SonMarks y = founders(1);
        due("die(0), the only one", y.die(0), 10);
    }

    static void p04DeadAlready() {
        sentence("is dead from then on (refused for the reason 6, if dead already)");
        SonMarks x = founders(2);
        due("die(0)", x.die(0), 11);
        due("die(0) again", x.die(0), 6);
        due("die(0) a third time", x.die(0), 6);
        due("count(1)", x.count(1), 1);
        due("count(9)", x.count(9), 2);
        due("count(11)", x.count(11), 4);
        due("undo()", x.undo(), 3);
        due("undo()", x.undo(), 2);
        due("count(9)", x.count(9), 0);
        due("die(0), dead still", x.die(0), 6);
        due("undo()", x.undo(), 2);
        due("undo()", x.undo(), 1);
        due("die(0), alive again", x.die(0), 11);
    }

    static void p04NoneGoesOut() {
        sentence("none ever goes out of the roll");
        SonMarks x = roll("f012340;s0.0=4;d0");
        due("person(0, 0)", x.person(0, 0), 1 * 5 + 2 * 25 + 3 * 125 + 4 * 625);
        due("person(0, 5)", x.person(0, 5), 1);
        due("person(1, 2)", x.person(1, 2), 0);
        due("found(0), the next number", x.found(0), 12);
    }

    // ---- promise 5

    static void p05Person() {
        sentence("`person`: a living person");
        SonMarks x = roll("f000000;s0.0=1;d0");
        due("inherit(MIN)", x.inherit(LEAST), BAD);
        due("inherit(-1)", x.inherit(-1), BAD);
        due("inherit(2)", x.inherit(2), BAD);
        due("inherit(3)", x.inherit(3), BAD);
        due("inherit(20)", x.inherit(20), BAD);
        due("inherit(MAX)", x.inherit(MOST), BAD);
        due("inherit(1)", x.inherit(1), 11);
        due("count(8)", x.count(8), 1);
    }

    static void p05DeadPerson() {
        sentence("NOT_POSSIBLE if the person is dead.");
        SonMarks x = roll("f000000;s0.0=1;s0.1=1;d0;d2");
        due("inherit(0), no father, dead", x.inherit(0), NOT_POSSIBLE);
        due("inherit(2), an elder brother lives, dead", x.inherit(2), NOT_POSSIBLE);
        due("count(9), an error is not counted", x.count(9), 0);
        due("count(11)", x.count(11), 1);
        due("die(1)", x.die(1), 10);
        due("inherit(1), dead", x.inherit(1), NOT_POSSIBLE);
        due("undo()", x.undo(), 1);
        due("inherit(1), alive", x.inherit(1), 11);
    }

    static void p05NoDeadFather() {
        sentence("7: the person has no father, or the father lives");
        SonMarks x = roll("f000000;s0.0=1;s1.1=1;d0");
        due("inherit(2), the father lives, his father is dead", x.inherit(2), 7);
        due("inherit(1), the father is dead", x.inherit(1), 11);
        due("found(1), no father", x.found(1), 13);
        due("inherit(3), no father", x.inherit(3), 7);
        due("die(1)", x.die(1), 12);
        due("inherit(2), the father is dead now", x.inherit(2), 12);
        due("count(8)", x.count(8), 2);
        due("count(9)", x.count(9), 2);
    }

    static void p05ElderBrother() {
        sentence("8: an elder brother lives");
        SonMarks x = roll("f000000;s0.0=1;s0.1=1;s0.2=1;d0");
        due("inherit(3), two elder ones live", x.inherit(3), 8);
        due("inherit(2), one elder one lives", x.inherit(2), 8);
        due("die(1)", x.die(1), 12);
        due("inherit(3), one elder one lives", x.inherit(3), 8);
        due("inherit(2), a younger one lives", x.inherit(2), 11);
        due("die(2)", x.die(2), 11);
        due("inherit(3), the last one", x.inherit(3), 11);
        due("person(3, 0)", x.person(3, 0), 0);
        due("person(2, 0)", x.person(2, 0), 0);
        due("count(8)", x.count(8), 2);
    }

    static void p05ElderOnesWhoAreNoBrothers() {
        sentence("8: an elder brother lives");
        SonMarks x = roll("f000000;f444444;s0.0=1;s1.0=1;s0.1=1;s1.1=1;d1;d2;d0");
        due("inherit(4), a founder's son lives who is elder", x.inherit(4), 11);
        due("inherit(5), an elder brother lives", x.inherit(5), 8);
        due("inherit(3)", x.inherit(3), 11);
        SonMarks y = roll("f000000;s0.0=1;s0.1=1;s1.2=1;s2.3=1;d2");
        due("inherit(4), an elder cousin lives", y.inherit(4), 11);
        due("person(4, 0)", y.person(4, 0), 5);
    }

    static void p05ShieldIsBorne() {
        sentence("3: a living person bears that shield (the heir himself counts as well");
        SonMarks x = roll("f000000;s0.0=1;d0;f000000");
        due("inherit(1), a founder bears it", x.inherit(1), 3);
        due("die(2)", x.die(2), 11);
        due("inherit(1), a dead one bore it", x.inherit(1), 11);
        due("inherit(1), he bears it himself", x.inherit(1), 3);
        due("count(8)", x.count(8), 1);
        due("count(9)", x.count(9), 2);
    }

    static void p05ShieldIsBorneFromBirth() {
        sentence("who bears it already needs no change");
        SonMarks x = roll("f000000;s0.0=1;s1.0=2;d0;h1");
        due("bear(1, 0, 1)", x.bear(1, 0, 1), 13);
        due("die(1)", x.die(1), 12);
        due("inherit(2)", x.inherit(2), 11);
        due("bear(2, 1, 3)", x.bear(2, 1, 3), 14);
        due("inherit(2) again", x.inherit(2), 3);
    }

    static void p05FirstOfTheReasons() {
        sentence("It is refused for the first of these reasons that is so: 7");
        SonMarks x = roll("f000000;s0.0=1;s0.1=1");
        due("inherit(2): 7, 8, 3 are so", x.inherit(2), 7);
        due("die(0)", x.die(0), 12);
        due("inherit(2): 8 is so", x.inherit(2), 8);
        due("found(0)", x.found(0), 13);
        due("inherit(2): 8, 3 are so", x.inherit(2), 8);
        due("inherit(1): 3 is so", x.inherit(1), 3);
        due("inherit(3): 7, 3 are so", x.inherit(3), 7);
        due("die(1)", x.die(1), 12);
        due("inherit(2): 3 is so", x.inherit(2), 3);
        due("die(3)", x.die(3), 11);
        due("inherit(2): none is so", x.inherit(2), 11);
        due("count(9)", x.count(9), 6);
    }

    /** The sons of a chain keep their shields, which lie farther from the founder's from son to son. */
    static void p05PlacesThatAreOthers() {
        sentence("Returns 10 and in how many places the shield is another one then");
        SonMarks x = chain(8);
        int[] places = {1, 2, 3, 4, 5, 6, 6};
        for (int i = 1; i < 8; i++) {
            due("die(" + (i - 1) + ")", x.die(i - 1), 10 + 8 - i);
            due("person(" + i + ", 11)", x.person(i, 11), places[i - 1]);
            due("inherit(" + i + ")", x.inherit(i), 10 + places[i - 1]);
            due("person(" + i + ", 0)", x.person(i, 0), 0);
        }
        due("count(8)", x.count(8), 7);
    }

    static void p05ShieldThatTheFatherBoreLast() {
        sentence("the eldest living son of a dead father takes up the shield that the father bore last");
        SonMarks x = roll("f000000;s0.0=1;s1.1=1;s1.2=1;d1");
        due("inherit(2)", x.inherit(2), 11);
        due("person(2, 0), the father was no heir", x.person(2, 0), 1);
        SonMarks y = roll("f000000;s0.0=1;s1.1=1;d0;h1;d1");
        due("inherit(2)", y.inherit(2), 12);
        due("person(2, 0), the father was an heir", y.person(2, 0), 0);
        due("person(2, 3)", y.person(2, 3), 1);
        due("person(2, 4)", y.person(2, 4), 1);
    }

    static void p05SonsKeepTheirShields() {
        sentence("A living person's sons keep their shields when he takes up another one");
        SonMarks x = roll("f000000;s0.0=1;s1.1=1;s1.2=1;d0");
        due("person(2, 11)", x.person(2, 11), 1);
        due("count(6)", x.count(6), 0);
        due("inherit(1)", x.inherit(1), 11);
        due("person(2, 0)", x.person(2, 0), 6);
        due("person(3, 0)", x.person(3, 0), 26);
        due("person(2, 11)", x.person(2, 11), 2);
        due("count(6)", x.count(6), 2);
    }

    static void p05RefusalIsAChange() {
        sentence("what is refused for a reason is one, too (it is counted)");
        SonMarks x = roll("f000000");
        due("inherit(0)", x.inherit(0), 7);
        due("count(9)", x.count(9), 1);
        due("count(11)", x.count(11), 2);
        due("inherit(1)", x.inherit(1), BAD);
        due("count(9)", x.count(9), 1);
        due("count(11)", x.count(11), 2);
        due("undo()", x.undo(), 1);
        due("count(9)", x.count(9), 0);
        due("count(8)", x.count(8), 0);
    }
}
