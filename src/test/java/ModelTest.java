import java.util.ArrayDeque;
import java.util.ArrayList;
import java.util.Arrays;
import java.util.HashSet;
import java.util.List;
import java.util.Set;
import java.util.regex.Matcher;
import java.util.regex.Pattern;

/** Long runs of calls, each answer compared with that of a second, plainer telling of the document. */
public final class ModelTest {
    private static final Dues dues = new Dues();
    private static long seed;

    public static void main(String[] args) {
        for (int run = 1; run <= 700; run++) {
            seed = run;
            Run next = new Run(run);
            while (next.mayGoOn()) {
                next.goOn();
            }
        }
        for (int run = 1; run <= 300; run++) {
            seed = -run;
            new Run(run).linesThroughWalls();
        }
        dues.end();
    }

    /** The same numbers at each start: a test that fails once fails again. */
    private static int pick(int bound) {
        seed = seed * 6364136223846793005L + 1442695040888963407L;
        return (int) ((seed >>> 33) % bound);
    }

    private static final class Run {
        private static final int[] ODD = {-1, Integer.MIN_VALUE, Integer.MAX_VALUE, 5, 6, 12, 19, 20, 15625, 2, 3};
        private final SonMarks x = new SonMarks();
        private final Model m = new Model();
        private final String name;
        private final int temper;
        private String typing = "";
        private int calls = 0;

        Run(int number) {
            name = "run " + number;
            temper = number % 4;
        }

        private int person() {
            int n = m.now.persons.size();
            return pick(30) == 0 || n == 0 ? odd() : pick(n);
        }

        private int odd() {
            return ODD[pick(ODD.length)];
        }

        private int place() {
            return pick(40) == 0 ? odd() : pick(temper == 1 ? 2 : 6);
        }

        private int mark() {
            return pick(40) == 0 ? odd() : pick(5);
        }

        /** Mostly near a shield that is borne. */
        private int shield() {
            if (pick(30) == 0) {
                return odd();
            }
            if (m.now.persons.isEmpty() || pick(3) == 0) {
                return pick(temper == 2 ? 25 : 15625);
            }
            int[] marks = Model.marksOf(m.now.persons.get(pick(m.now.persons.size())).shield);
            int changes = pick(3);
            for (int i = 0; i < changes; i++) {
                marks[pick(6)] = pick(5);
            }
            return Model.shieldOf(marks);
        }

        private int way() {
            return pick(40) == 0 ? odd() : pick(2);
        }

        private int what(int most) {
            return pick(30) == 0 ? odd() : pick(most + 1);
        }

        /** The answers of an object are promised for 512 calls; goOn() makes four at most. */
        boolean mayGoOn() {
            return calls <= 508;
        }

        private void due(String call, int got, int want) {
            calls++;
            dues.due(name + ", call " + calls + ": " + call, got, want);
        }

        /** One step: mostly one call, with some calls of the texts those that tell more of them. */
        void goOn() {
            if (!typing.isEmpty()) {
                type();
                return;
            }
            int kind = pick(100);
            if (kind < 6) {
                int shield = shield();
                due("found(" + shield + ")", x.found(shield), m.change("found", shield, 0, 0));
            } else if (kind < 24) {
                int father = person();
                int place = place();
                int mark = mark();
                due("bear(" + father + ", " + place + ", " + mark + ")", x.bear(father, place, mark),
                    m.change("bear", father, place, mark));
            } else if (kind < 27) {
                int person = person();
                due("die(" + person + ")", x.die(person), m.change("die", person, 0, 0));
            } else if (kind < 33) {
                int person = person();
                due("inherit(" + person + ")", x.inherit(person), m.change("inherit", person, 0, 0));
            } else if (kind < 42) {
                callText(kind);
            } else if (kind < 47) {
                callHistory(kind);
            } else {
                callLook(kind);
            }
        }

        /** 19 persons stand next to the two ends of a line, on the places where the ends differ mostly. */
        void linesThroughWalls() {
            int from = pick(15625);
            int apart = 1 + pick(6);
            int to = from;
            for (int i = 0; i < apart; i++) {
                to = Model.changed(to, i, (Model.marksOf(from)[i] + 1 + pick(4)) % 5);
            }
            due("found(" + from + ")", x.found(from), m.change("found", from, 0, 0));
            for (int i = 0; i < 19; i++) {
                int place = pick(10) == 0 ? pick(6) : pick(apart);
                int mark = pick(3) > 0 ? Model.marksOf(temper == 0 ? to : from)[place] : pick(5);
                int wall = Model.changed(pick(4) == temper ? to : from, place, pick(2) == 0 ? mark : pick(5));
                if (wall != to) {
                    due("found(" + wall + ")", x.found(wall), m.change("found", wall, 0, 0));
                }
            }
            for (int way = 0; way < 2; way++) {
                due("line(0, " + to + ", " + way + ")", x.line(0, to, way), m.line(0, to, way));
                due("line(1, " + to + ", " + way + ")", x.line(1, to, way), m.line(1, to, way));
            }
        }

        private void type() {
            int code = typing.charAt(0);
            typing = typing.substring(1);
            due("append(" + code + ")", x.append(code), m.append(code));
            if (typing.isEmpty()) {
                due("fault()", x.fault(), m.fault());
            }
        }

        private void callText(int kind) {
            if (kind < 34) {
                typing = rollText();
            } else if (kind < 35) {
                int code = pick(2) == 0 ? odd() : 32 + pick(96);
                due("append(" + code + ")", x.append(code), m.append(code));
            } else if (kind < 36) {
                due("clear()", x.clear(), m.clear());
            } else if (kind < 37) {
                due("fault()", x.fault(), m.fault());
            } else if (kind < 39) {
                due("enrol()", x.enrol(), m.enrol());
                for (int what = 0; what <= 2; what++) {
                    due("why(" + what + ")", x.why(what), m.why(what));
                }
            } else {
                int what = what(2);
                due("why(" + what + ")", x.why(what), m.why(what));
            }
        }

        /** A few deeds, sometimes with a wrong character, or cut short. */
        private String rollText() {
            StringBuilder text = new StringBuilder(m.pad.isEmpty() ? "" : ";");
            int deeds = 1 + pick(6);
            for (int i = 0; i < deeds; i++) {
                text.append(i == 0 ? "" : ";").append(deedText());
            }
            if (pick(8) == 0) {
                text.setCharAt(pick(text.length()), "fsdh.=;0123456789"
                    .charAt(pick(17)));
            }
            if (pick(8) == 0) {
                text.setLength(pick(text.length()) + 1);
            }
            return text.toString();
        }

        private String deedText() {
            int someone = m.now.persons.isEmpty() ? pick(20) : pick(m.now.persons.size());
            switch (pick(6)) {
                case 0:
                    StringBuilder founder = new StringBuilder("f");
                    for (int i = 0; i < 6; i++) {
                        founder.append(pick(5));
                    }
                    return founder.toString();
                case 1:
                    return "d" + someone;
                case 2:
                    return "h" + someone;
                default:
                    return "s" + someone + "." + pick(6) + "=" + pick(5);
            }
        }

        private void callHistory(int kind) {
            if (kind < 45) {
                due("undo()", x.undo(), m.undo());
            } else if (kind < 46) {
                due("save()", x.save(), m.save());
            } else if (pick(2) == 0) {
                due("restore()", x.restore(), m.restore());
            }
        }

        private void callLook(int kind) {
            int a = person();
            int b = person();
            if (kind < 55) {
                int what = what(11);
                due("person(" + a + ", " + what + ")", x.person(a, what), m.person(a, what));
            } else if (kind < 57) {
                int place = place();
                due("mark(" + a + ", " + place + ")", x.mark(a, place), m.mark(a, place));
            } else if (kind < 62) {
                int place = place();
                int mark = mark();
                due("whyNot(" + a + ", " + place + ", " + mark + ")", x.whyNot(a, place, mark),
                    m.whyNot(a, place, mark));
            } else if (kind < 67) {
                int way = way();
                due("choices(" + a + ", " + way + ")", x.choices(a, way), m.choices(a, way));
            } else if (kind < 71) {
                due("best(" + a + ")", x.best(a), m.best(a));
            } else if (kind < 73) {
                due("differs(" + a + ", " + b + ")", x.differs(a, b), m.differs(a, b));
            } else if (kind < 76) {
                due("kin(" + a + ", " + b + ")", x.kin(a, b), m.kin(a, b));
            } else if (kind < 78) {
                int shield = shield();
                due("bearer(" + shield + ")", x.bearer(shield), m.bearer(shield));
            } else if (kind < 80) {
                int shield = shield();
                int way = way();
                due("line(" + a + ", " + shield + ", " + way + ")", x.line(a, shield, way), m.line(a, shield, way));
            } else if (kind < 90) {
                int what = what(11);
                due("count(" + what + ")", x.count(what), m.count(what));
            } else if (kind < 92) {
                int place = place();
                int mark = mark();
                due("borne(" + place + ", " + mark + ")", x.borne(place, mark), m.borne(place, mark));
            } else if (kind < 94) {
                calls++;
                dues.dueDouble(name + ", call " + calls + ": unlike()", x.unlike(), m.unlike());
            } else {
                int what = what(2);
                due("ifDead(" + a + ", " + what + ")", x.ifDead(a, what), m.ifDead(a, what));
            }
        }
    }

    private record Person(int shield, boolean alive, int father, int place, int mark) {
    }

    /** Everything that undo and restore bring back. */
    private static final class State {
        final List<Person> persons = new ArrayList<>();
        int heirs = 0;
        int refused = 0;

        State copy() {
            State copy = new State();
            copy.persons.addAll(persons);
            copy.heirs = heirs;
            copy.refused = refused;
            return copy;
        }
    }

    private static final class Model {
        private static final String DEED = "(f[0-4]{6}|s1?[0-9]\\.[0-5]=[0-4]|d1?[0-9]|h1?[0-9])";
        private static final Pattern ROLL = Pattern.compile(DEED + "(;" + DEED + ")*");
        State now = new State();
        State saved = null;
        final ArrayDeque<State> history = new ArrayDeque<>();
        String pad = "";
        int[] stop = null;

        static int[] marksOf(int shield) {
            int[] marks = new int[6];
            for (int i = 0; i < 6; i++) {
                marks[i] = shield % 5;
                shield /= 5;
            }
            return marks;
        }

        static int shieldOf(int[] marks) {
            int shield = 0;
            for (int i = 5; i >= 0; i--) {
                shield = shield * 5 + marks[i];
            }
            return shield;
        }

        static int apart(int one, int other) {
            int[] a = marksOf(one);
            int[] b = marksOf(other);
            int n = 0;
            for (int i = 0; i < 6; i++) {
                n += a[i] == b[i] ? 0 : 1;
            }
            return n;
        }

        static int changed(int shield, int place, int mark) {
            int[] marks = marksOf(shield);
            marks[place] = mark;
            return shieldOf(marks);
        }

        private boolean no(int person) {
            return person < 0 || person >= now.persons.size();
        }

        private static boolean out(int value, int most) {
            return value < 0 || value > most;
        }

        private Person at(int person) {
            return now.persons.get(person);
        }

        private List<Integer> all() {
            List<Integer> all = new ArrayList<>();
            for (int i = 0; i < now.persons.size(); i++) {
                all.add(i);
            }
            return all;
        }

        private List<Integer> living() {
            List<Integer> living = all();
            living.removeIf(i -> !at(i).alive());
            return living;
        }

        private List<Integer> sons(int father) {
            List<Integer> sons = all();
            sons.removeIf(i -> at(i).father() != father);
            return sons;
        }

        private List<Integer> brothers(int person) {
            if (at(person).father() < 0) {
                return new ArrayList<>();
            }
            List<Integer> brothers = sons(at(person).father());
            brothers.remove((Integer) person);
            return brothers;
        }

        /** The sons of the father's brothers. */
        private List<Integer> nephewsOf(int father) {
            List<Integer> cousins = new ArrayList<>();
            for (int uncle : brothers(father)) {
                cousins.addAll(sons(uncle));
            }
            return cousins;
        }

        private List<Integer> forefathers(int person) {
            List<Integer> line = new ArrayList<>();
            for (int at = person; at >= 0; at = at(at).father()) {
                line.add(at);
            }
            return line;
        }

        int bearer(int shield) {
            if (out(shield, 15624)) {
                return -1;
            }
            for (int i : living()) {
                if (at(i).shield() == shield) {
                    return i;
                }
            }
            return -4;
        }

        int change(String deed, int a, int b, int c) {
            State before = now.copy();
            int answer = deed(deed, a, b, c);
            if (answer >= 0) {
                keep(before);
            }
            return answer;
        }

        private void keep(State before) {
            history.addLast(before);
            if (history.size() == 5) {
                history.removeFirst();
            }
        }

        private int deed(String deed, int a, int b, int c) {
            int answer;
            switch (deed) {
                case "found":
                    answer = found(a);
                    break;
                case "bear":
                    answer = bear(a, b, c);
                    break;
                case "die":
                    answer = die(a);
                    break;
                default:
                    answer = inherit(a);
            }
            if (answer > 0 && answer < 10) {
                now.refused++;
            }
            return answer;
        }

        private int found(int shield) {
            if (out(shield, 15624)) {
                return -1;
            }
            if (now.persons.size() == 20) {
                return -3;
            }
            if (bearer(shield) >= 0) {
                return 3;
            }
            now.persons.add(new Person(shield, true, -1, -1, -1));
            return 9 + now.persons.size();
        }

        private int bear(int father, int place, int mark) {
            int reason = whyNot(father, place, mark);
            if (reason == -1) {
                return -1;
            }
            if (now.persons.size() == 20) {
                return -3;
            }
            if (reason != 0) {
                return reason;
            }
            now.persons.add(new Person(changed(at(father).shield(), place, mark), true, father, place, mark));
            return 9 + now.persons.size();
        }

        private int die(int person) {
            if (no(person)) {
                return -1;
            }
            Person p = at(person);
            if (!p.alive()) {
                return 6;
            }
            now.persons.set(person, new Person(p.shield(), false, p.father(), p.place(), p.mark()));
            return 10 + living().size();
        }

        private int inherit(int person) {
            if (no(person)) {
                return -1;
            }
            Person p = at(person);
            if (!p.alive()) {
                return -2;
            }
            if (p.father() < 0 || at(p.father()).alive()) {
                return 7;
            }
            for (int brother : brothers(person)) {
                if (brother < person && at(brother).alive()) {
                    return 8;
                }
            }
            int shield = at(p.father()).shield();
            if (bearer(shield) >= 0) {
                return 3;
            }
            now.persons.set(person, new Person(shield, true, p.father(), p.place(), p.mark()));
            now.heirs++;
            return 10 + apart(p.shield(), shield);
        }

        int append(int code) {
            if (code < 33 || code > 126) {
                return -1;
            }
            if (pad.length() == 60) {
                return -3;
            }
            pad += (char) code;
            return pad.length();
        }

        int clear() {
            int had = pad.length();
            pad = "";
            return had;
        }

        int fault() {
            for (int i = 1; i <= pad.length(); i++) {
                Matcher matcher = ROLL.matcher(pad.substring(0, i));
                if (!matcher.matches() && !matcher.hitEnd()) {
                    return i - 1;
                }
            }
            return ROLL.matcher(pad).matches() ? -4 : pad.length();
        }

        int enrol() {
            if (fault() != -4) {
                return -2;
            }
            keep(now.copy());
            stop = null;
            int done = 0;
            int position = 0;
            for (String deed : pad.split(";")) {
                int answer = read(deed);
                if (answer < 10) {
                    stop = new int[] {answer, done, position};
                    break;
                }
                done++;
                position += deed.length() + 1;
            }
            pad = "";
            return done;
        }

        private int read(String deed) {
            String rest = deed.substring(1);
            switch (deed.charAt(0)) {
                case 'f':
                    return deed("found", Integer.parseInt(new StringBuilder(rest).reverse().toString(), 5), 0, 0);
                case 's':
                    String[] parts = rest.split("[.=]");
                    return deed("bear", Integer.parseInt(parts[0]), Integer.parseInt(parts[1]),
                        Integer.parseInt(parts[2]));
                case 'd':
                    return deed("die", Integer.parseInt(rest), 0, 0);
                default:
                    return deed("inherit", Integer.parseInt(rest), 0, 0);
            }
        }

        int why(int what) {
            return out(what, 2) ? -1 : stop == null ? -4 : stop[what];
        }

        int person(int person, int what) {
            if (no(person) || out(what, 11)) {
                return -1;
            }
            Person p = at(person);
            List<Integer> some;
            switch (what) {
                case 0:
                    return p.shield();
                case 1:
                    return p.alive() ? 1 : 0;
                case 2:
                    return p.father() < 0 ? -4 : p.father();
                case 3:
                    return p.father() < 0 ? -4 : p.place();
                case 4:
                    return p.father() < 0 ? -4 : p.mark();
                case 5:
                    return sons(person).size();
                case 6:
                    some = sons(person);
                    break;
                case 7:
                    some = brothers(person);
                    break;
                case 8:
                    some = p.father() < 0 ? new ArrayList<>() : nephewsOf(p.father());
                    break;
                case 9:
                    some = all();
                    some.removeIf(i -> i == person || !forefathers(i).contains(person));
                    return some.size();
                case 10:
                    return forefathers(person).size() - 1;
                default:
                    return p.father() < 0 ? -4 : apart(p.shield(), at(p.father()).shield());
            }
            some.retainAll(living());
            return some.size();
        }

        int mark(int person, int place) {
            return no(person) || out(place, 5) ? -1 : marksOf(at(person).shield())[place];
        }

        int whyNot(int father, int place, int mark) {
            if (no(father) || out(place, 5) || out(mark, 4)) {
                return -1;
            }
            if (!at(father).alive()) {
                return 1;
            }
            int shield = changed(at(father).shield(), place, mark);
            if (shield == at(father).shield()) {
                return 2;
            }
            if (bearer(shield) >= 0) {
                return 3;
            }
            for (int cousin : nephewsOf(father)) {
                if (at(cousin).alive() && at(cousin).place() == place) {
                    return 4;
                }
            }
            return sons(father).size() == 4 ? 5 : 0;
        }

        int choices(int father, int way) {
            if (no(father) || out(way, 1)) {
                return -1;
            }
            int left = 0;
            for (int i = 0; i < 30; i++) {
                left += whyNot(father, i / 5, i % 5) == 0 ? 1 : 0;
            }
            return left;
        }

        int best(int father) {
            if (no(father)) {
                return -1;
            }
            for (int apart = 6; apart >= 0; apart--) {
                for (int i = 0; i < 30; i++) {
                    if (whyNot(father, i / 5, i % 5) == 0
                        && isApart(father, changed(at(father).shield(), i / 5, i % 5), apart)) {
                        return i;
                    }
                }
            }
            return -4;
        }

        private boolean isApart(int father, int shield, int apart) {
            for (int i : living()) {
                if (i != father && apart(at(i).shield(), shield) < apart) {
                    return false;
                }
            }
            return true;
        }

        int differs(int one, int other) {
            return no(one) || no(other) ? -1 : apart(at(one).shield(), at(other).shield());
        }

        int kin(int one, int other) {
            if (no(one) || no(other)) {
                return -1;
            }
            List<Integer> a = forefathers(one);
            List<Integer> b = forefathers(other);
            for (int i = 0; i < a.size(); i++) {
                if (b.contains(a.get(i))) {
                    return i + b.indexOf(a.get(i));
                }
            }
            return -4;
        }

        /** All shields are reached, none is left out for being far. */
        int line(int person, int shield, int way) {
            if (no(person) || out(shield, 15624) || out(way, 1)) {
                return -1;
            }
            if (!at(person).alive()) {
                return -2;
            }
            boolean[] closed = new boolean[15625];
            for (int i : living()) {
                closed[at(i).shield()] = true;
            }
            int[] steps = new int[15625];
            Arrays.fill(steps, -4);
            int[] queue = new int[15625];
            int tail = 1;
            queue[0] = at(person).shield();
            steps[queue[0]] = 0;
            for (int head = 0; head < tail; head++) {
                int[] marks = marksOf(queue[head]);
                for (int place = 0; place < 6; place++) {
                    int own = marks[place];
                    for (int mark = 0; mark < 5; mark++) {
                        marks[place] = mark;
                        int son = shieldOf(marks);
                        if (!closed[son] && steps[son] < 0) {
                            steps[son] = steps[queue[head]] + 1;
                            queue[tail++] = son;
                        }
                    }
                    marks[place] = own;
                }
            }
            return steps[shield];
        }

        int count(int what) {
            int n = 0;
            Set<Integer> shields = new HashSet<>();
            switch (what) {
                case 0:
                    return now.persons.size();
                case 1:
                    return living().size();
                case 2:
                    for (int i : all()) {
                        n += at(i).father() < 0 ? 1 : 0;
                    }
                    return n;
                case 3:
                    return confused();
                case 4:
                    for (int i : all()) {
                        n = Math.max(n, forefathers(i).size() - 1);
                    }
                    return n;
                case 5:
                    for (int i : all()) {
                        shields.add(at(i).shield());
                    }
                    return shields.size();
                case 6:
                    for (int i : living()) {
                        n += at(i).father() >= 0 && apart(at(i).shield(), at(at(i).father()).shield()) > 1 ? 1 : 0;
                    }
                    return n;
                case 7:
                    for (int i : living()) {
                        n += sons(i).isEmpty() ? 1 : 0;
                    }
                    return n;
                case 8:
                    return now.heirs;
                case 9:
                    return now.refused;
                case 10:
                    return pad.length();
                case 11:
                    return history.size();
                default:
                    return -1;
            }
        }

        private int confused() {
            int pairs = 0;
            for (int i : living()) {
                for (int j : living()) {
                    if (at(i).father() != j && at(j).father() != i && apart(at(i).shield(), at(j).shield()) == 1) {
                        pairs++;
                    }
                }
            }
            return pairs / 2;
        }

        int borne(int place, int mark) {
            if (out(place, 5) || out(mark, 4)) {
                return -1;
            }
            int n = 0;
            for (int i : living()) {
                n += marksOf(at(i).shield())[place] == mark ? 1 : 0;
            }
            return n;
        }

        double unlike() {
            int n = living().size();
            if (n < 2) {
                return 0.0;
            }
            int sum = 0;
            for (int i : living()) {
                for (int j : living()) {
                    sum += apart(at(i).shield(), at(j).shield());
                }
            }
            return (double) (sum / 2) / (n * (n - 1) / 2);
        }

        int ifDead(int person, int what) {
            if (no(person) || out(what, 2)) {
                return -1;
            }
            if (!at(person).alive()) {
                return -2;
            }
            State before = now;
            now = now.copy();
            die(person);
            int answer = afterDeath(person, what);
            now = before;
            return answer;
        }

        private int afterDeath(int person, int what) {
            if (what == 1) {
                return confused();
            }
            int left = 0;
            for (int i : living()) {
                if (what == 0 && at(i).father() == person && inherit(i) >= 10) {
                    return i;
                }
                left += choices(i, 0);
            }
            return what == 0 ? -4 : left;
        }

        int undo() {
            if (history.isEmpty()) {
                return -2;
            }
            now = history.removeLast();
            return history.size();
        }

        int save() {
            saved = now.copy();
            return living().size();
        }

        int restore() {
            if (saved == null) {
                return -2;
            }
            keep(now);
            now = saved.copy();
            return living().size();
        }
    }
}
