import java.util.function.IntSupplier;

/** The boundary cases of the promises 24 to 26, and of changes and errors: history, snapshot, calls that change nothing. */
public final class HistoryEdgesTest extends Edges {
    public static void main(String[] args) {
        runAll(HistoryEdgesTest.class, 24, 26);
    }

    // ---- promise 24

    static void p24NoState() {
        sentence("NOT_POSSIBLE if it has none.");
        SonMarks x = new SonMarks();
        due("undo() of a new object", x.undo(), NOT_POSSIBLE);
        due("found(0)", x.found(0), 10);
        due("undo() of one", x.undo(), 0);
        due("undo() of none", x.undo(), NOT_POSSIBLE);
        due("undo() of none again", x.undo(), NOT_POSSIBLE);
        due("count(0)", x.count(0), 0);
        due("found(0)", x.found(0), 10);
        due("count(11)", x.count(11), 1);
    }

    static void p24AtMostFourStates() {
        sentence("A history of at most 4 states is kept");
        for (int changes = 1; changes <= 9; changes++) {
            SonMarks x = founders(changes);
            int states = Math.min(4, changes);
            due("count(11) after " + changes, x.count(11), states);
            for (int i = 1; i <= states; i++) {
                due("undo() number " + i + " after " + changes, x.undo(), states - i);
                due("count(0)", x.count(0), changes - i);
                due("bearer of the last one", x.bearer(31 * (changes - i)), NONE);
                due("bearer of the one before", x.bearer(31 * (changes - i - 1)), changes == i ? BAD : changes - i - 1);
            }
            due("undo() of none after " + changes, x.undo(), NOT_POSSIBLE);
            due("count(0)", x.count(0), changes - states);
        }
    }

    static void p24OldestIsDropped() {
        sentence("if there are 5 states then, the oldest one is dropped");
        SonMarks x = roll("f000000");
        due("bear", x.bear(0, 0, 1), 11);
        due("die", x.die(0), 11);
        due("inherit", x.inherit(1), 11);
        due("count(11)", x.count(11), 4);
        due("inherit, refused", x.inherit(1), 3);
        due("count(11)", x.count(11), 4);
        due("undo() of the refusal", x.undo(), 3);
        due("undo() of inherit", x.undo(), 2);
        due("undo() of die", x.undo(), 1);
        due("undo() of bear", x.undo(), 0);
        due("undo() of the roll, which was dropped", x.undo(), NOT_POSSIBLE);
        due("count(0)", x.count(0), 1);
    }

    static void p24EachStateComesBack() {
        sentence("everything but the pad, the snapshot and why() is as it was before it");
        SonMarks x = new SonMarks();
        thereAndBack(x, () -> x.found(0), () -> x.bear(0, 0, 1), () -> x.die(0), () -> x.inherit(1));
        SonMarks y = new SonMarks();
        due("save()", y.save(), 0);
        write(y, "f000000;s0.0=1;d0;d0");
        thereAndBack(y, () -> y.enrol(), () -> y.found(7), () -> y.restore(), () -> y.found(8));
        SonMarks z = new SonMarks();
        thereAndBack(z, () -> z.found(0), () -> z.found(0), () -> z.bear(0, 0, 0), () -> z.inherit(0));
        SonMarks w = new SonMarks();
        thereAndBack(w, () -> w.found(0), () -> w.die(0), () -> w.die(0), () -> w.bear(0, 0, 1));
    }

    /** Changes at most four times, then undoes each of the changes. */
    private static void thereAndBack(SonMarks x, IntSupplier... changes) {
        String[] before = new String[changes.length];
        for (int i = 0; i < changes.length; i++) {
            before[i] = state(x);
            due("change " + i, changes[i].getAsInt() >= 0 ? 1 : 0, 1);
            due("count(11)", x.count(11), i + 1);
            due("something is another one", state(x).equals(before[i]) ? 0 : 1, 1);
        }
        for (int i = changes.length - 1; i >= 0; i--) {
            due("undo()", x.undo(), i);
            same("undone change " + i, state(x), before[i]);
        }
        due("undo()", x.undo(), NOT_POSSIBLE);
    }

    static void p24NewChangesAfterUndo() {
        sentence("Returns how many states the history has then");
        SonMarks x = founders(6);
        due("undo()", x.undo(), 3);
        due("undo()", x.undo(), 2);
        due("found(7)", x.found(7), 14);
        due("count(11)", x.count(11), 3);
        due("found(8)", x.found(8), 15);
        due("found(9)", x.found(9), 16);
        due("count(11)", x.count(11), 4);
        int[] shields = {9, 8, 7, 93};
        for (int i = 0; i < 4; i++) {
            due("bearer(" + shields[i] + ")", x.bearer(shields[i]), 6 - i);
            due("undo()", x.undo(), 3 - i);
            due("bearer(" + shields[i] + ")", x.bearer(shields[i]), NONE);
        }
        due("undo()", x.undo(), NOT_POSSIBLE);
        due("count(0)", x.count(0), 3);
    }

    static void p24EachKindOfChange() {
        sentence("The changes are the calls of found, bear, die, inherit, enrol and restore that return no error");
        SonMarks x = roll("f000000;s0.0=1;d0", "f333333");
        due("save()", x.save(), 2);
        String before = told(x);
        due("found", x.found(7), 13);
        undone(x, "found", before);
        due("bear", x.bear(1, 5, 4), 13);
        undone(x, "bear", before);
        due("die", x.die(2), 11);
        undone(x, "die", before);
        due("inherit", x.inherit(1), 11);
        undone(x, "inherit", before);
        due("restore", x.restore(), 2);
        undone(x, "restore", before);
    }

    static void p24EachKindOfRefusal() {
        sentence("what is refused for a reason is one, too (it is counted)");
        SonMarks x = roll("f000000;s0.0=1;d0", "f333333");
        String before = told(x);
        due("found", x.found(1), 3);
        undone(x, "found", before);
        due("bear", x.bear(0, 5, 4), 1);
        undone(x, "bear", before);
        due("die", x.die(0), 6);
        undone(x, "die", before);
        due("inherit", x.inherit(2), 7);
        undone(x, "inherit", before);
    }

    private static void undone(SonMarks x, String change, String before) {
        due("count(11) after " + change, x.count(11), 3);
        due("undo() of " + change, x.undo(), 2);
        same("undone " + change, told(x), before);
    }

    static void p24EnrolIsOneChange() {
        sentence("This is one change, also if none is done.");
        SonMarks x = roll("f000000;s0.0=1;d0", "f333333");
        enrols(x, "d2;h1;f000000", 2);
        String stopped = " why 3 why 2 why 6";
        due("told", told(x).endsWith(stopped) ? 1 : 0, 1);
        due("undo()", x.undo(), 2);
        due("count(9)", x.count(9), 0);
        due("count(8)", x.count(8), 0);
        due("person(1, 0)", x.person(1, 0), 1);
        due("person(2, 1)", x.person(2, 1), 1);
        due("told, why() stays", told(x).endsWith(stopped) ? 1 : 0, 1);
        due("undo()", x.undo(), 1);
        due("count(0)", x.count(0), 2);
        due("undo()", x.undo(), 0);
        due("count(0)", x.count(0), 0);
    }

    static void p24AlsoIfNothingIsDifferent() {
        sentence("(also if nothing is different then)");
        SonMarks x = new SonMarks();
        due("save()", x.save(), 0);
        for (int i = 1; i <= 5; i++) {
            due("restore() of the same", x.restore(), 0);
            due("count(11)", x.count(11), Math.min(4, i));
        }
        enrols(x, "d0", 0);
        due("count(11)", x.count(11), 4);
        due("undo()", x.undo(), 3);
        enrols(x, "d0", 0);
        due("count(11)", x.count(11), 4);
    }

    static void p24WhatIsNoChange() {
        sentence("The changes are the calls of found, bear, die, inherit, enrol and restore that return no error");
        SonMarks x = roll("f000000");
        due("append", x.append('d'), 1);
        due("enrol(), an error", x.enrol(), NOT_POSSIBLE);
        due("clear", x.clear(), 1);
        due("save", x.save(), 1);
        due("fault", x.fault(), 0);
        due("count(11)", x.count(11), 1);
        due("undo()", x.undo(), 0);
        due("undo() is none itself", x.undo(), NOT_POSSIBLE);
        due("restore(), a change", x.restore(), 1);
        due("count(11)", x.count(11), 1);
    }

    static void p24PadSnapshotAndWhyStay() {
        sentence("everything but the pad, the snapshot and why() is as it was before it");
        SonMarks x = new SonMarks();
        enrols(x, "f000000;d0;d0", 2);
        due("save()", x.save(), 0);
        due("found(0)", x.found(0), 11);
        write(x, "f1");
        due("undo()", x.undo(), 1);
        due("count(10), the pad", x.count(10), 2);
        due("fault()", x.fault(), 2);
        due("undo()", x.undo(), 0);
        due("count(10), the pad", x.count(10), 2);
        due("why(0)", x.why(0), 6);
        due("why(1)", x.why(1), 2);
        due("why(2)", x.why(2), 11);
        due("count(0)", x.count(0), 0);
        due("restore(), the snapshot", x.restore(), 0);
        due("count(0)", x.count(0), 1);
        due("count(9)", x.count(9), 1);
    }

    static void p24SnapshotThatWasTakenLater() {
        sentence("everything but the pad, the snapshot and why() is as it was before it");
        SonMarks x = founders(1);
        due("found(77)", x.found(77), 11);
        due("save()", x.save(), 2);
        due("undo()", x.undo(), 1);
        due("undo()", x.undo(), 0);
        due("count(0)", x.count(0), 0);
        due("restore()", x.restore(), 2);
        due("bearer(77)", x.bearer(77), 1);
    }

    static void p24ErrorsChangeNothing() {
        sentence("A call that returns an error changes nothing (the pad stays, too).");
        SonMarks x = roll("f000000;s0.0=1", "d0");
        write(x, "f0");
        due("save()", x.save(), 1);
        String before = told(x);
        due("found(-1)", x.found(-1), BAD);
        due("found(15625)", x.found(15625), BAD);
        due("bear(2, 0, 0)", x.bear(2, 0, 0), BAD);
        due("bear(1, 6, 0)", x.bear(1, 6, 0), BAD);
        due("bear(1, 0, 5)", x.bear(1, 0, 5), BAD);
        due("die(2)", x.die(2), BAD);
        due("inherit(2)", x.inherit(2), BAD);
        due("inherit(0)", x.inherit(0), NOT_POSSIBLE);
        due("append(32)", x.append(32), BAD);
        due("append(127)", x.append(127), BAD);
        due("enrol()", x.enrol(), NOT_POSSIBLE);
        due("why(3)", x.why(3), BAD);
        due("person(2, 0)", x.person(2, 0), BAD);
        due("ifDead(0, 0)", x.ifDead(0, 0), NOT_POSSIBLE);
        due("ifDead(2, 0)", x.ifDead(2, 0), BAD);
        due("line(0, 0, 0)", x.line(0, 0, 0), NOT_POSSIBLE);
        same("after errors", told(x), before);
        due("undo()", x.undo(), 1);
        due("person(0, 1)", x.person(0, 1), 1);
        due("undo()", x.undo(), 0);
        due("count(0)", x.count(0), 0);
        due("undo(), an error", x.undo(), NOT_POSSIBLE);
        due("count(10)", x.count(10), 2);
        due("restore()", x.restore(), 1);
        due("count(0)", x.count(0), 2);
    }

    static void p24SeveralErrors() {
        sentence("If several errors apply to a call, INVALID_ARGUMENT is returned rather than NOT_POSSIBLE");
        SonMarks x = roll("f000000;s0.0=1;d0");
        due("inherit(2), no person", x.inherit(2), BAD);
        due("inherit(0), dead", x.inherit(0), NOT_POSSIBLE);
        due("ifDead(0, 3), dead", x.ifDead(0, 3), BAD);
        due("ifDead(0, 2), dead", x.ifDead(0, 2), NOT_POSSIBLE);
        due("line(0, 15625, 0), dead", x.line(0, 15625, 0), BAD);
        due("line(0, 15624, 2), dead", x.line(0, 15624, 2), BAD);
        due("line(0, 15624, 0), dead", x.line(0, 15624, 0), NOT_POSSIBLE);
    }

    static void p24NotPossibleRatherThanNotFound() {
        sentence("NOT_POSSIBLE rather than LIMIT_REACHED, and LIMIT_REACHED rather than NOT_FOUND.");
        SonMarks x = roll("f000000;f100000;d0");
        due("line(0, 1, 0), dead, and another one bears it", x.line(0, 1, 0), NOT_POSSIBLE);
        due("line(0, 1, 1), dead, and another one bears it", x.line(0, 1, 1), NOT_POSSIBLE);
        due("ifDead(0, 0), dead, and no heir", x.ifDead(0, 0), NOT_POSSIBLE);
        due("ifDead(1, 0), alive, and no heir", x.ifDead(1, 0), NONE);
    }

    static void p24InvalidRatherThanNotFound() {
        sentence("If several errors apply to a call, INVALID_ARGUMENT is returned");
        SonMarks x = roll("f000000;f100000");
        due("why(3), no deed", x.why(3), BAD);
        due("why(2), no deed", x.why(2), NONE);
        due("person(0, 12), a founder", x.person(0, 12), BAD);
        due("person(0, 11), a founder", x.person(0, 11), NONE);
        due("kin(0, 2), no person", x.kin(0, 2), BAD);
        due("kin(0, 1), two founders", x.kin(0, 1), NONE);
        due("line(0, 1, 2), another one bears it", x.line(0, 1, 2), BAD);
        due("line(0, 1, 1), another one bears it", x.line(0, 1, 1), NONE);
        due("ifDead(0, 3), no heir", x.ifDead(0, 3), BAD);
        due("ifDead(0, 0), no heir", x.ifDead(0, 0), NONE);
    }

    static void p24NoSuchPerson() {
        sentence("If there is no person of a certain number, this is INVALID_ARGUMENT.");
        SonMarks x = new SonMarks();
        for (int n = 0; n <= 20; n++) {
            due("person(" + (n - 1) + ", 1) of " + n, x.person(n - 1, 1), n == 0 ? BAD : 1);
            due("person(" + n + ", 1) of " + n, x.person(n, 1), BAD);
            due("mark(" + n + ", 0)", x.mark(n, 0), BAD);
            due("whyNot(" + n + ", 5, 4)", x.whyNot(n, 5, 4), BAD);
            due("choices(" + n + ", 0)", x.choices(n, 0), BAD);
            due("choices(" + n + ", 1)", x.choices(n, 1), BAD);
            due("best(" + n + ")", x.best(n), BAD);
            due("differs(" + n + ", 0)", x.differs(n, 0), BAD);
            due("kin(0, " + n + ")", x.kin(0, n), BAD);
            due("line(" + n + ", 15624, 0)", x.line(n, 15624, 0), BAD);
            due("ifDead(" + n + ", 0)", x.ifDead(n, 0), BAD);
            due("bear(" + n + ", 5, 4)", x.bear(n, 5, 4), BAD);
            due("die(" + n + ")", x.die(n), BAD);
            due("inherit(" + n + ")", x.inherit(n), BAD);
            due("found(" + 31 * n + ")", x.found(31 * n), n == 20 ? LIMIT : 10 + n);
        }
    }

    static void p24LimitChangesNothing() {
        sentence("A call that returns an error changes nothing (the pad stays, too).");
        SonMarks x = founders(20);
        for (int i = 0; i < 60; i++) {
            x.append('f');
        }
        due("found(15624)", x.found(15624), LIMIT);
        due("bear(0, 5, 4)", x.bear(0, 5, 4), LIMIT);
        due("append(102)", x.append('f'), LIMIT);
        due("enrol()", x.enrol(), NOT_POSSIBLE);
        due("restore()", x.restore(), NOT_POSSIBLE);
        due("count(10)", x.count(10), 60);
        due("count(11)", x.count(11), 4);
        for (int i = 1; i <= 4; i++) {
            due("undo()", x.undo(), 4 - i);
            due("count(0)", x.count(0), 20 - i);
        }
        due("undo()", x.undo(), NOT_POSSIBLE);
    }

    // ---- promise 25

    static void p25HowManyLive() {
        sentence("Returns how many persons live.");
        due("save() of none", new SonMarks().save(), 0);
        for (int persons = 1; persons <= 20; persons += persons == 2 ? 17 : 1) {
            SonMarks x = founders(persons);
            due("save() of " + persons, x.save(), persons);
            due("die(0)", x.die(0), 9 + persons);
            due("save() with one dead", x.save(), persons - 1);
        }
    }

    static void p25InPlaceOfTheOneThatWas() {
        sentence("in place of the one that was");
        SonMarks x = founders(2);
        due("save()", x.save(), 2);
        due("found(77)", x.found(77), 12);
        due("save()", x.save(), 3);
        due("die(0)", x.die(0), 12);
        due("restore()", x.restore(), 3);
        due("count(0)", x.count(0), 3);
        due("undo()", x.undo(), 3);
        due("count(1)", x.count(1), 2);
        due("save() of fewer", x.save(), 2);
        due("restore()", x.restore(), 2);
        due("person(0, 1)", x.person(0, 1), 0);
    }

    static void p25NoChange() {
        sentence("The changes are the calls of found, bear, die, inherit, enrol and restore");
        SonMarks x = founders(1);
        String before = told(x);
        due("save()", x.save(), 1);
        due("save()", x.save(), 1);
        same("after save()", told(x), before);
        due("undo()", x.undo(), 0);
        due("count(0)", x.count(0), 0);
    }

    static void p25WhatIsNotTaken() {
        sentence("Takes a snapshot of everything but the pad, the history and why()");
        SonMarks x = new SonMarks();
        write(x, "f1");
        due("save()", x.save(), 0);
        due("clear()", x.clear(), 2);
        enrols(x, "f000000;f000000", 1);
        due("found(1)", x.found(1), 11);
        write(x, "f");
        due("restore()", x.restore(), 0);
        due("count(10), the pad", x.count(10), 1);
        due("count(11), the history", x.count(11), 3);
        due("why(0)", x.why(0), 3);
        due("why(1)", x.why(1), 1);
        due("why(2)", x.why(2), 8);
        due("count(0)", x.count(0), 0);
        due("count(9)", x.count(9), 0);
    }

    static void p25EverythingElse() {
        sentence("Takes a snapshot of everything but the pad, the history and why()");
        SonMarks x = roll("f012340;s0.5=4;s1.0=3;d0;h1");
        due("found, refused", x.found(x.person(1, 0)), 3);
        String before = state(x);
        due("save()", x.save(), 2);
        due("die(1)", x.die(1), 11);
        due("inherit(2)", x.inherit(2), 12);
        due("bear(2, 3, 1)", x.bear(2, 3, 1), 13);
        due("bear(2, 3, 1)", x.bear(2, 3, 1), 3);
        due("restore()", x.restore(), 2);
        same("after restore()", state(x), before);
    }

    // ---- promise 26

    static void p26NoSnapshot() {
        sentence("NOT_POSSIBLE if there is none.");
        SonMarks x = new SonMarks();
        due("restore() of a new object", x.restore(), NOT_POSSIBLE);
        due("count(11)", x.count(11), 0);
        due("found(0)", x.found(0), 10);
        due("restore() after a change", x.restore(), NOT_POSSIBLE);
        due("count(0)", x.count(0), 1);
        due("count(11)", x.count(11), 1);
        due("undo()", x.undo(), 0);
        due("restore() after undo()", x.restore(), NOT_POSSIBLE);
        due("save() of none", x.save(), 0);
        due("restore() of none", x.restore(), 0);
        due("count(11)", x.count(11), 1);
    }

    static void p26Stays() {
        sentence("Restores the snapshot, which stays.");
        SonMarks x = founders(1);
        due("save()", x.save(), 1);
        for (int i = 0; i < 3; i++) {
            due("bear(0, 0, 1)", x.bear(0, 0, 1), 11);
            due("die(0)", x.die(0), 11);
            due("inherit(1)", x.inherit(1), 11);
            due("restore()", x.restore(), 1);
            due("count(0)", x.count(0), 1);
            due("count(8)", x.count(8), 0);
            due("person(0, 1)", x.person(0, 1), 1);
            due("person(1, 0)", x.person(1, 0), BAD);
        }
        due("restore() twice", x.restore(), 1);
        due("restore() thrice", x.restore(), 1);
    }

    static void p26HowManyLiveThen() {
        sentence("Returns how many persons live then");
        SonMarks x = founders(20);
        due("die(7)", x.die(7), 29);
        due("save()", x.save(), 19);
        due("die(8)", x.die(8), 28);
        due("die(9)", x.die(9), 27);
        due("restore()", x.restore(), 19);
        due("count(1)", x.count(1), 19);
        due("die(7), dead in the snapshot", x.die(7), 6);
        due("die(8), alive in the snapshot", x.die(8), 28);
        due("found(15624), 20 persons", x.found(15624), LIMIT);
    }

    static void p26FewerAndMorePersons() {
        sentence("Restores the snapshot, which stays.");
        SonMarks x = founders(19);
        due("save()", x.save(), 19);
        due("found(15624)", x.found(15624), 29);
        due("found(15623)", x.found(15623), LIMIT);
        due("restore()", x.restore(), 19);
        due("person(19, 0)", x.person(19, 0), BAD);
        due("bearer(15624)", x.bearer(15624), NONE);
        due("found(15623), the 20th again", x.found(15623), 29);
        due("undo() of found", x.undo(), 3);
        due("undo() of restore", x.undo(), 2);
        due("person(19, 0)", x.person(19, 0), 15624);
        due("undo() of found", x.undo(), 1);
        due("count(0)", x.count(0), 19);
        due("undo()", x.undo(), 0);
        due("undo()", x.undo(), NOT_POSSIBLE);
        due("count(0), the first ones were dropped", x.count(0), 18);
        due("restore() of more", x.restore(), 19);
        due("count(0)", x.count(0), 19);
    }

    static void p26IsAChange() {
        sentence("each change records everything before it but the pad, the snapshot and why()");
        SonMarks x = founders(2);
        due("save()", x.save(), 2);
        due("die(0)", x.die(0), 11);
        due("die(0), refused", x.die(0), 6);
        due("restore()", x.restore(), 2);
        due("count(9), as in the snapshot", x.count(9), 0);
        due("count(11), the fifth", x.count(11), 4);
        due("undo() of restore", x.undo(), 3);
        due("count(9)", x.count(9), 1);
        due("count(1)", x.count(1), 1);
        due("undo()", x.undo(), 2);
        due("count(9)", x.count(9), 0);
        due("undo()", x.undo(), 1);
        due("count(1)", x.count(1), 2);
        due("restore()", x.restore(), 2);
        due("count(11)", x.count(11), 2);
    }

    static void p26AnotherRollInstead() {
        sentence("Restores the snapshot, which stays.");
        SonMarks x = roll("f000000;s0.1=2;s1.2=3;d0");
        String saved = state(x);
        due("save()", x.save(), 2);
        due("undo()", x.undo(), 0);
        enrols(x, "f444444;s0.4=0;f222222;s2.5=4;d1;d1", 5);
        String other = state(x);
        due("restore()", x.restore(), 2);
        same("restored", state(x), saved);
        due("undo()", x.undo(), 1);
        same("undone", state(x), other);
        due("restore()", x.restore(), 2);
        same("restored again", state(x), saved);
    }

    static void p26SnapshotIsApart() {
        sentence("Restores the snapshot, which stays.");
        SonMarks x = roll("f000000;s0.0=1;d0");
        due("save()", x.save(), 1);
        due("inherit(1), after save()", x.inherit(1), 11);
        due("restore()", x.restore(), 1);
        due("person(1, 0)", x.person(1, 0), 1);
        due("inherit(1), after restore()", x.inherit(1), 11);
        due("bear(1, 4, 4)", x.bear(1, 4, 4), 12);
        due("restore()", x.restore(), 1);
        due("person(1, 0)", x.person(1, 0), 1);
        due("count(0)", x.count(0), 2);
        due("count(8)", x.count(8), 0);
        due("bear(1, 4, 4)", x.bear(1, 4, 4), 12);
        due("person(2, 0)", x.person(2, 0), 2501);
    }
}
