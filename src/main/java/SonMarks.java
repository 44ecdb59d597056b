/** A roll of persons with shields of six marks; the promises are in ../shared/DOC.md. */
public final class SonMarks {
    public static final int INVALID_ARGUMENT = -1;
    public static final int NOT_POSSIBLE = -2;
    public static final int LIMIT_REACHED = -3;
    public static final int NOT_FOUND = -4;

    private static final int PLACES = 6;
    private static final int MARKS = 5;
    private static final int SHIELDS = 15625;
    private static final int MOST_PERSONS = 20;
    private static final int MOST_SONS = 4;
    private static final int MOST_STATES = 4;
    private static final int NO_PERSON = -1;

    private static final int NO_REASON = 0;
    private static final int FATHER_IS_DEAD = 1;
    private static final int MARK_IS_THERE = 2;
    private static final int SHIELD_IS_BORNE = 3;
    private static final int COUSIN_CHANGED_IT = 4;
    private static final int SONS_ARE_ENOUGH = 5;
    private static final int IS_DEAD_ALREADY = 6;
    private static final int FATHER_LEFT_NOTHING = 7;
    private static final int ELDER_BROTHER_LIVES = 8;
    private static final int DONE = 10;

    private final Roll roll = new Roll();
    private final Roll snapshot = new Roll();
    private final Roll trial = new Roll();
    private final History history = new History();
    private final Pad pad = new Pad();
    private final LineSearch lines = new LineSearch();
    private boolean snapshotTaken = false;
    /** What the deed answered at which enrol() stopped, 0 if it did not stop. */
    private int stopAnswer = 0;
    private int stopDeed = 0;
    private int stopPosition = 0;

    public SonMarks() {
    }

    // ---- births, deaths, heirs

    public int found(int shield) {
        history.note(roll);
        return keepIfChanged(roll.founderComes(shield));
    }

    public int bear(int father, int place, int mark) {
        history.note(roll);
        return keepIfChanged(roll.sonComes(father, place, mark));
    }

    public int die(int person) {
        history.note(roll);
        return keepIfChanged(roll.goes(person));
    }

    public int inherit(int person) {
        history.note(roll);
        return keepIfChanged(roll.becomesHeir(person));
    }

    private int keepIfChanged(int answer) {
        if (answer >= 0) {
            history.keepNoted();
        }
        return answer;
    }

    // ---- texts

    public int append(int code) {
        if (code < 33 || code > 126) {
            return INVALID_ARGUMENT;
        }
        if (pad.isFull()) {
            return LIMIT_REACHED;
        }
        pad.put(code);
        return pad.length();
    }

    public int clear() {
        int had = pad.length();
        pad.empty();
        return had;
    }

    public int fault() {
        return pad.firstFault();
    }

    public int enrol() {
        if (pad.firstFault() != NOT_FOUND) {
            return NOT_POSSIBLE;
        }
        history.note(roll);
        int done = 0;
        stopAnswer = 0;
        for (int at = 0; at < pad.length() && stopAnswer == 0; at++) {
            if (!pad.startsDeed(at)) {
                continue;
            }
            int answer = enrolDeed(at);
            if (answer >= DONE) {
                done++;
            } else {
                stopAnswer = answer;
                stopDeed = done;
                stopPosition = at;
            }
        }
        history.keepNoted();
        pad.empty();
        return done;
    }

    private int enrolDeed(int at) {
        switch (pad.signAt(at)) {
            case 'f':
                return roll.founderComes(pad.shieldAt(at + 1));
            case 's':
                int dot = pad.afterNumber(at + 1);
                return roll.sonComes(pad.numberAt(at + 1), pad.digitAt(dot + 1), pad.digitAt(dot + 3));
            case 'd':
                return roll.goes(pad.numberAt(at + 1));
            default:
                return roll.becomesHeir(pad.numberAt(at + 1));
        }
    }

    public int why(int what) {
        if (what < 0 || what > 2) {
            return INVALID_ARGUMENT;
        }
        if (stopAnswer == 0) {
            return NOT_FOUND;
        }
        if (what == 0) {
            return stopAnswer;
        }
        return what == 1 ? stopDeed : stopPosition;
    }

    // ---- looks; nothing is changed

    public int person(int person, int what) {
        if (!roll.has(person)) {
            return INVALID_ARGUMENT;
        }
        switch (what) {
            case 0:
                return roll.shieldOf(person);
            case 1:
                return roll.isAlive(person) ? 1 : 0;
            case 2:
                return orNotFound(roll.fatherOf(person));
            case 3:
                return orNotFound(roll.birthPlaceOf(person));
            case 4:
                return orNotFound(roll.birthMarkOf(person));
            case 5:
                return roll.sonsOf(person);
            case 6:
                return Kindred.livingSons(roll, person);
            case 7:
                return Kindred.livingBrothers(roll, person);
            case 8:
                return Kindred.livingCousins(roll, person);
            case 9:
                return Kindred.descendants(roll, person);
            case 10:
                return Kindred.stepsFromFounder(roll, person);
            case 11:
                return Kindred.placesFromFather(roll, person);
            default:
                return INVALID_ARGUMENT;
        }
    }

    private static int orNotFound(int value) {
        return value < 0 ? NOT_FOUND : value;
    }

    public int mark(int person, int place) {
        if (!roll.has(person) || !Shields.isPlace(place)) {
            return INVALID_ARGUMENT;
        }
        return Shields.markAt(roll.shieldOf(person), place);
    }

    public int whyNot(int father, int place, int mark) {
        if (!roll.has(father) || !Shields.isPlace(place) || !Shields.isMark(mark)) {
            return INVALID_ARGUMENT;
        }
        return roll.reasonAgainstSon(father, place, mark);
    }

    public int choices(int father, int way) {
        if (!roll.has(father) || !isWay(way)) {
            return INVALID_ARGUMENT;
        }
        return way == 0 ? Births.leftByTrying(roll, father) : Births.leftByPlaces(roll, father);
    }

    public int best(int father) {
        if (!roll.has(father)) {
            return INVALID_ARGUMENT;
        }
        return Births.farthest(roll, father);
    }

    public int differs(int one, int other) {
        if (!roll.has(one) || !roll.has(other)) {
            return INVALID_ARGUMENT;
        }
        return Shields.apart(roll.shieldOf(one), roll.shieldOf(other));
    }

    public int kin(int one, int other) {
        if (!roll.has(one) || !roll.has(other)) {
            return INVALID_ARGUMENT;
        }
        return Kindred.nearness(roll, one, other);
    }

    public int bearer(int shield) {
        if (!Shields.isShield(shield)) {
            return INVALID_ARGUMENT;
        }
        return orNotFound(roll.livingWith(shield));
    }

    public int line(int person, int shield, int way) {
        if (!roll.has(person) || !Shields.isShield(shield) || !isWay(way)) {
            return INVALID_ARGUMENT;
        }
        if (!roll.isAlive(person)) {
            return NOT_POSSIBLE;
        }
        int own = roll.shieldOf(person);
        if (own == shield) {
            return 0;
        }
        if (roll.livingWith(shield) != NO_PERSON) {
            return NOT_FOUND;
        }
        return way == 0 ? lines.fewest(roll, own, shield) : lines.fewest(roll, shield, own);
    }

    private static boolean isWay(int way) {
        return way == 0 || way == 1;
    }

    public int count(int what) {
        switch (what) {
            case 0:
                return roll.size();
            case 1:
                return roll.living();
            case 2:
                return Accounts.founders(roll);
            case 3:
                return Accounts.confusedPairs(roll);
            case 4:
                return Accounts.mostStepsFromFounder(roll);
            case 5:
                return Accounts.differentShields(roll);
            case 6:
                return Accounts.farFromFather(roll);
            case 7:
                return Accounts.livingSonless(roll);
            case 8:
                return roll.heirs();
            case 9:
                return roll.refusals();
            case 10:
                return pad.length();
            case 11:
                return history.size();
            default:
                return INVALID_ARGUMENT;
        }
    }

    public int borne(int place, int mark) {
        if (!Shields.isPlace(place) || !Shields.isMark(mark)) {
            return INVALID_ARGUMENT;
        }
        return Accounts.livingWithMark(roll, place, mark);
    }

    public double unlike() {
        return Accounts.meanApart(roll);
    }

    // ---- what would be; nothing is changed

    public int ifDead(int person, int what) {
        if (!roll.has(person) || what < 0 || what > 2) {
            return INVALID_ARGUMENT;
        }
        if (!roll.isAlive(person)) {
            return NOT_POSSIBLE;
        }
        trial.copyFrom(roll);
        trial.goes(person);
        if (what == 0) {
            return orNotFound(Kindred.heirOf(trial, person));
        }
        return what == 1 ? Accounts.confusedPairs(trial) : Births.leftToAll(trial);
    }

    // ---- history, snapshot

    public int undo() {
        if (history.size() == 0) {
            return NOT_POSSIBLE;
        }
        history.takeBack(roll);
        return history.size();
    }

    public int save() {
        snapshot.copyFrom(roll);
        snapshotTaken = true;
        return roll.living();
    }

    public int restore() {
        if (!snapshotTaken) {
            return NOT_POSSIBLE;
        }
        history.note(roll);
        roll.copyFrom(snapshot);
        history.keepNoted();
        return roll.living();
    }

    /** Shields as numbers: the mark at place p counts 5 to the power of p. */
    private static final class Shields {
        static boolean isShield(int shield) {
            return shield >= 0 && shield < SHIELDS;
        }

        static boolean isPlace(int place) {
            return place >= 0 && place < PLACES;
        }

        static boolean isMark(int mark) {
            return mark >= 0 && mark < MARKS;
        }

        static int markAt(int shield, int place) {
            int rest = shield;
            for (int i = 0; i < place && i < PLACES; i++) {
                rest /= MARKS;
            }
            return rest % MARKS;
        }

        static int weightOf(int place) {
            int weight = 1;
            for (int i = 0; i < place && i < PLACES; i++) {
                weight *= MARKS;
            }
            return weight;
        }

        static int withMark(int shield, int place, int mark) {
            return shield + (mark - markAt(shield, place)) * weightOf(place);
        }

        static int apart(int one, int other) {
            int places = 0;
            for (int i = 0; i < PLACES; i++) {
                if (one % MARKS != other % MARKS) {
                    places++;
                }
                one /= MARKS;
                other /= MARKS;
            }
            return places;
        }
    }

    /** All that undo() and restore() bring back, and the deeds that change it. */
    private static final class Roll {
        private final int[] shields = new int[MOST_PERSONS];
        private final boolean[] alive = new boolean[MOST_PERSONS];
        private final int[] fathers = new int[MOST_PERSONS];
        private final int[] birthPlaces = new int[MOST_PERSONS];
        private final int[] birthMarks = new int[MOST_PERSONS];
        private int size = 0;
        private int heirs = 0;
        private int refusals = 0;

        void copyFrom(Roll other) {
            for (int i = 0; i < MOST_PERSONS; i++) {
                shields[i] = other.shields[i];
                alive[i] = other.alive[i];
                fathers[i] = other.fathers[i];
                birthPlaces[i] = other.birthPlaces[i];
                birthMarks[i] = other.birthMarks[i];
            }
            size = other.size;
            heirs = other.heirs;
            refusals = other.refusals;
        }

        int size() {
            return size;
        }

        int heirs() {
            return heirs;
        }

        int refusals() {
            return refusals;
        }

        boolean has(int person) {
            return person >= 0 && person < size && person < MOST_PERSONS;
        }

        int shieldOf(int person) {
            return has(person) ? shields[person] : 0;
        }

        boolean isAlive(int person) {
            return has(person) && alive[person];
        }

        int fatherOf(int person) {
            return has(person) ? fathers[person] : NO_PERSON;
        }

        /** The place that was changed at birth; a founder's is none of a shield's places. */
        int birthPlaceOf(int person) {
            return has(person) ? birthPlaces[person] : -1;
        }

        int birthMarkOf(int person) {
            return has(person) ? birthMarks[person] : -1;
        }

        int living() {
            int living = 0;
            for (int i = 0; i < size; i++) {
                if (isAlive(i)) {
                    living++;
                }
            }
            return living;
        }

        /** No two living persons bear the same shield: the first one found is the only one. */
        int livingWith(int shield) {
            for (int i = 0; i < size && i < MOST_PERSONS; i++) {
                if (alive[i] && shields[i] == shield) {
                    return i;
                }
            }
            return NO_PERSON;
        }

        int sonsOf(int person) {
            int sons = 0;
            for (int i = 0; i < size; i++) {
                if (fatherOf(i) == person) {
                    sons++;
                }
            }
            return sons;
        }

        boolean areBrothers(int one, int other) {
            return has(one) && has(other) && one != other
                && fathers[one] != NO_PERSON && fathers[one] == fathers[other];
        }

        int founderComes(int shield) {
            if (!Shields.isShield(shield)) {
                return INVALID_ARGUMENT;
            }
            if (size >= MOST_PERSONS) {
                return LIMIT_REACHED;
            }
            if (livingWith(shield) != NO_PERSON) {
                return refuse(SHIELD_IS_BORNE);
            }
            return add(shield, NO_PERSON, -1, -1);
        }

        int sonComes(int father, int place, int mark) {
            if (!has(father) || !Shields.isPlace(place) || !Shields.isMark(mark)) {
                return INVALID_ARGUMENT;
            }
            if (size >= MOST_PERSONS) {
                return LIMIT_REACHED;
            }
            int reason = reasonAgainstSon(father, place, mark);
            if (reason != NO_REASON) {
                return refuse(reason);
            }
            return add(Shields.withMark(shieldOf(father), place, mark), father, place, mark);
        }

        int goes(int person) {
            if (!has(person)) {
                return INVALID_ARGUMENT;
            }
            if (!isAlive(person)) {
                return refuse(IS_DEAD_ALREADY);
            }
            alive[person] = false;
            return DONE + living();
        }

        int becomesHeir(int person) {
            if (!has(person)) {
                return INVALID_ARGUMENT;
            }
            if (!isAlive(person)) {
                return NOT_POSSIBLE;
            }
            int reason = reasonAgainstHeir(person);
            if (reason != NO_REASON) {
                return refuse(reason);
            }
            int before = shieldOf(person);
            shields[person] = shieldOf(fatherOf(person));
            heirs++;
            return DONE + Shields.apart(before, shieldOf(person));
        }

        private int refuse(int reason) {
            refusals++;
            return reason;
        }

        private int add(int shield, int father, int place, int mark) {
            int person = size;
            if (person >= MOST_PERSONS) {
                return LIMIT_REACHED;
            }
            shields[person] = shield;
            alive[person] = true;
            fathers[person] = father;
            birthPlaces[person] = place;
            birthMarks[person] = mark;
            size++;
            return DONE + person;
        }

        int reasonAgainstSon(int father, int place, int mark) {
            if (!isAlive(father)) {
                return FATHER_IS_DEAD;
            }
            if (Shields.markAt(shieldOf(father), place) == mark) {
                return MARK_IS_THERE;
            }
            if (livingWith(Shields.withMark(shieldOf(father), place, mark)) != NO_PERSON) {
                return SHIELD_IS_BORNE;
            }
            if (cousinChanged(father, place)) {
                return COUSIN_CHANGED_IT;
            }
            return sonsOf(father) >= MOST_SONS ? SONS_ARE_ENOUGH : NO_REASON;
        }

        /** Whether a living cousin of this father's sons changed a mark at this place at birth. */
        boolean cousinChanged(int father, int place) {
            for (int i = 0; i < size; i++) {
                if (isAlive(i) && birthPlaceOf(i) == place && areBrothers(fatherOf(i), father)) {
                    return true;
                }
            }
            return false;
        }

        int reasonAgainstHeir(int person) {
            int father = fatherOf(person);
            if (father == NO_PERSON || isAlive(father)) {
                return FATHER_LEFT_NOTHING;
            }
            for (int i = 0; i < person; i++) {
                if (isAlive(i) && areBrothers(i, person)) {
                    return ELDER_BROTHER_LIVES;
                }
            }
            return livingWith(shieldOf(father)) != NO_PERSON ? SHIELD_IS_BORNE : NO_REASON;
        }
    }

    /** Who comes from whom. */
    private static final class Kindred {
        static int livingSons(Roll roll, int person) {
            int sons = 0;
            for (int i = 0; i < roll.size(); i++) {
                if (roll.isAlive(i) && roll.fatherOf(i) == person) {
                    sons++;
                }
            }
            return sons;
        }

        static int livingBrothers(Roll roll, int person) {
            int brothers = 0;
            for (int i = 0; i < roll.size(); i++) {
                if (roll.isAlive(i) && roll.areBrothers(i, person)) {
                    brothers++;
                }
            }
            return brothers;
        }

        static int livingCousins(Roll roll, int person) {
            int cousins = 0;
            for (int i = 0; i < roll.size(); i++) {
                if (roll.isAlive(i) && roll.areBrothers(roll.fatherOf(i), roll.fatherOf(person))) {
                    cousins++;
                }
            }
            return cousins;
        }

        static int descendants(Roll roll, int person) {
            int descendants = 0;
            for (int i = person + 1; i < roll.size(); i++) {
                if (comesFrom(roll, i, person)) {
                    descendants++;
                }
            }
            return descendants;
        }

        private static boolean comesFrom(Roll roll, int person, int forefather) {
            int at = person;
            for (int step = 0; step < MOST_PERSONS && at > forefather; step++) {
                at = roll.fatherOf(at);
            }
            return at == forefather;
        }

        static int stepsFromFounder(Roll roll, int person) {
            int at = person;
            int steps = 0;
            while (steps < MOST_PERSONS && roll.fatherOf(at) != NO_PERSON) {
                at = roll.fatherOf(at);
                steps++;
            }
            return steps;
        }

        static int placesFromFather(Roll roll, int person) {
            int father = roll.fatherOf(person);
            if (father == NO_PERSON) {
                return NOT_FOUND;
            }
            return Shields.apart(roll.shieldOf(person), roll.shieldOf(father));
        }

        /** A father has the lesser number: the greater of the two can't be where the ways meet. */
        static int nearness(Roll roll, int one, int other) {
            int steps = 0;
            while (steps < 2 * MOST_PERSONS && one != other) {
                if (one > other) {
                    one = roll.fatherOf(one);
                } else {
                    other = roll.fatherOf(other);
                }
                steps++;
            }
            return one == other && one != NO_PERSON ? steps : NOT_FOUND;
        }

        static int heirOf(Roll roll, int dead) {
            for (int i = 0; i < roll.size(); i++) {
                if (roll.isAlive(i) && roll.fatherOf(i) == dead && roll.reasonAgainstHeir(i) == NO_REASON) {
                    return i;
                }
            }
            return NO_PERSON;
        }
    }

    /** The changes that are left to fathers. */
    private static final class Births {
        static int leftByTrying(Roll roll, int father) {
            int left = 0;
            for (int place = 0; place < PLACES; place++) {
                for (int mark = 0; mark < MARKS; mark++) {
                    if (roll.reasonAgainstSon(father, place, mark) == NO_REASON) {
                        left++;
                    }
                }
            }
            return left;
        }

        static int leftByPlaces(Roll roll, int father) {
            if (!roll.isAlive(father) || roll.sonsOf(father) >= MOST_SONS) {
                return 0;
            }
            int left = 0;
            for (int place = 0; place < PLACES; place++) {
                if (!roll.cousinChanged(father, place)) {
                    left += MARKS - 1 - livingApartAt(roll, father, place);
                }
            }
            return left;
        }

        /** How many living shields differ from the father's at this place and no other. */
        private static int livingApartAt(Roll roll, int father, int place) {
            int shield = roll.shieldOf(father);
            int mark = Shields.markAt(shield, place);
            int living = 0;
            for (int i = 0; i < roll.size(); i++) {
                int other = roll.shieldOf(i);
                if (roll.isAlive(i) && Shields.apart(shield, other) == 1 && Shields.markAt(other, place) != mark) {
                    living++;
                }
            }
            return living;
        }

        static int leftToAll(Roll roll) {
            int left = 0;
            for (int i = 0; i < roll.size(); i++) {
                left += leftByPlaces(roll, i);
            }
            return left;
        }

        static int farthest(Roll roll, int father) {
            int best = NOT_FOUND;
            int bestApart = -1;
            for (int change = 0; change < PLACES * MARKS; change++) {
                int place = change / MARKS;
                int mark = change % MARKS;
                if (roll.reasonAgainstSon(father, place, mark) != NO_REASON) {
                    continue;
                }
                int apart = leastApart(roll, Shields.withMark(roll.shieldOf(father), place, mark), father);
                if (apart > bestApart) {
                    best = change;
                    bestApart = apart;
                }
            }
            return best;
        }

        private static int leastApart(Roll roll, int shield, int father) {
            int least = PLACES;
            for (int i = 0; i < roll.size(); i++) {
                if (roll.isAlive(i) && i != father) {
                    least = Math.min(least, Shields.apart(shield, roll.shieldOf(i)));
                }
            }
            return least;
        }
    }

    /** Numbers over the whole roll. */
    private static final class Accounts {
        static int founders(Roll roll) {
            int founders = 0;
            for (int i = 0; i < roll.size(); i++) {
                if (roll.fatherOf(i) == NO_PERSON) {
                    founders++;
                }
            }
            return founders;
        }

        static int confusedPairs(Roll roll) {
            int pairs = 0;
            for (int one = 0; one < roll.size(); one++) {
                for (int other = one + 1; other < roll.size(); other++) {
                    if (areConfused(roll, one, other)) {
                        pairs++;
                    }
                }
            }
            return pairs;
        }

        private static boolean areConfused(Roll roll, int one, int other) {
            return roll.isAlive(one) && roll.isAlive(other)
                && roll.fatherOf(one) != other && roll.fatherOf(other) != one
                && Shields.apart(roll.shieldOf(one), roll.shieldOf(other)) == 1;
        }

        static int mostStepsFromFounder(Roll roll) {
            int most = 0;
            for (int i = 0; i < roll.size(); i++) {
                most = Math.max(most, Kindred.stepsFromFounder(roll, i));
            }
            return most;
        }

        static int differentShields(Roll roll) {
            int different = 0;
            for (int i = 0; i < roll.size(); i++) {
                if (isFirstWithItsShield(roll, i)) {
                    different++;
                }
            }
            return different;
        }

        private static boolean isFirstWithItsShield(Roll roll, int person) {
            for (int i = 0; i < person; i++) {
                if (roll.shieldOf(i) == roll.shieldOf(person)) {
                    return false;
                }
            }
            return true;
        }

        static int farFromFather(Roll roll) {
            int far = 0;
            for (int i = 0; i < roll.size(); i++) {
                if (roll.isAlive(i) && Kindred.placesFromFather(roll, i) > 1) {
                    far++;
                }
            }
            return far;
        }

        static int livingSonless(Roll roll) {
            int sonless = 0;
            for (int i = 0; i < roll.size(); i++) {
                if (roll.isAlive(i) && roll.sonsOf(i) == 0) {
                    sonless++;
                }
            }
            return sonless;
        }

        static int livingWithMark(Roll roll, int place, int mark) {
            int living = 0;
            for (int i = 0; i < roll.size(); i++) {
                if (roll.isAlive(i) && Shields.markAt(roll.shieldOf(i), place) == mark) {
                    living++;
                }
            }
            return living;
        }

        static double meanApart(Roll roll) {
            int places = 0;
            int pairs = 0;
            for (int one = 0; one < roll.size(); one++) {
                for (int other = one + 1; other < roll.size(); other++) {
                    if (roll.isAlive(one) && roll.isAlive(other)) {
                        places += Shields.apart(roll.shieldOf(one), roll.shieldOf(other));
                        pairs++;
                    }
                }
            }
            return pairs == 0 ? 0.0 : (double) places / (double) pairs;
        }
    }

    /** The states before the latest changes; their rows are made once and used again. */
    private static final class History {
        /** One more than are kept: room for the state before a change that may still be an error. */
        private final Roll[] states = new Roll[MOST_STATES + 1];
        private int size = 0;

        History() {
            for (int i = 0; i < states.length; i++) {
                states[i] = new Roll();
            }
        }

        int size() {
            return size;
        }

        private Roll stateAt(int number) {
            return number >= 0 && number < states.length ? states[number] : null;
        }

        void note(Roll now) {
            Roll free = stateAt(size);
            if (free != null) {
                free.copyFrom(now);
            }
        }

        void keepNoted() {
            if (size < MOST_STATES) {
                size++;
                return;
            }
            Roll oldest = states[0];
            for (int i = 0; i < MOST_STATES; i++) {
                states[i] = states[i + 1];
            }
            states[MOST_STATES] = oldest;
        }

        void takeBack(Roll into) {
            Roll latest = stateAt(size - 1);
            if (latest != null) {
                into.copyFrom(latest);
                size--;
            }
        }
    }

    /** The text of a roll; what may come next after a sign is told by a state. */
    private static final class Pad {
        private static final int MOST_SIGNS = 60;
        private static final int WRONG = -1;
        /** The states 1 to 6 are: so many marks are due, and then the deed is at its end. */
        private static final int DEED_END = 0;
        private static final int LETTER = 7;
        private static final int FATHER = 8;
        private static final int FATHER_AFTER_ONE = 9;
        private static final int DOT = 10;
        private static final int PLACE = 11;
        private static final int EQUALS = 12;
        private static final int PERSON = 13;
        private static final int PERSON_AFTER_ONE = 14;

        private final int[] signs = new int[MOST_SIGNS];
        private int length = 0;

        int length() {
            return length;
        }

        boolean isFull() {
            return length >= MOST_SIGNS;
        }

        void put(int sign) {
            if (length >= 0 && length < MOST_SIGNS) {
                signs[length] = sign;
                length++;
            }
        }

        void empty() {
            length = 0;
        }

        int signAt(int at) {
            return at >= 0 && at < length && at < MOST_SIGNS ? signs[at] : 0;
        }

        boolean startsDeed(int at) {
            return at == 0 || signAt(at - 1) == ';';
        }

        int digitAt(int at) {
            return signAt(at) - '0';
        }

        int afterNumber(int at) {
            return isBetween(signAt(at + 1), '0', '9') ? at + 2 : at + 1;
        }

        int numberAt(int at) {
            return isBetween(signAt(at + 1), '0', '9') ? 10 * digitAt(at) + digitAt(at + 1) : digitAt(at);
        }

        int shieldAt(int at) {
            int shield = 0;
            for (int place = 0; place < PLACES; place++) {
                shield += digitAt(at + place) * Shields.weightOf(place);
            }
            return shield;
        }

        int firstFault() {
            int state = LETTER;
            for (int at = 0; at < length; at++) {
                state = stateAfter(state, signAt(at));
                if (state == WRONG) {
                    return at;
                }
            }
            return state == DEED_END || state == PERSON_AFTER_ONE ? NOT_FOUND : length;
        }

        private static int stateAfter(int state, int sign) {
            switch (state) {
                case DEED_END:
                    return stateAfterDeed(sign);
                case LETTER:
                    return stateAfterLetter(sign);
                case FATHER:
                    return stateAfterDigit(sign, FATHER_AFTER_ONE, DOT);
                case FATHER_AFTER_ONE:
                    return isBetween(sign, '0', '9') ? DOT : stateAfterFather(sign);
                case DOT:
                    return stateAfterFather(sign);
                case PLACE:
                    return isBetween(sign, '0', '5') ? EQUALS : WRONG;
                case EQUALS:
                    return sign == '=' ? 1 : WRONG;
                case PERSON:
                    return stateAfterDigit(sign, PERSON_AFTER_ONE, DEED_END);
                case PERSON_AFTER_ONE:
                    return isBetween(sign, '0', '9') ? DEED_END : stateAfterDeed(sign);
                default:
                    return isBetween(sign, '0', '4') ? state - 1 : WRONG;
            }
        }

        private static int stateAfterLetter(int letter) {
            switch (letter) {
                case 'f':
                    return PLACES;
                case 's':
                    return FATHER;
                case 'd':
                case 'h':
                    return PERSON;
                default:
                    return WRONG;
            }
        }

        private static int stateAfterFather(int sign) {
            return sign == '.' ? PLACE : WRONG;
        }

        private static int stateAfterDeed(int sign) {
            return sign == ';' ? LETTER : WRONG;
        }

        /** Only a 1 may have a second digit after it: numbers go to 19, without a needless 0 ahead. */
        private static int stateAfterDigit(int sign, int afterOne, int afterOther) {
            if (!isBetween(sign, '0', '9')) {
                return WRONG;
            }
            return sign == '1' ? afterOne : afterOther;
        }

        private static boolean isBetween(int sign, int least, int most) {
            return sign >= least && sign <= most;
        }
    }

    private static final class ShieldSet {
        private static final int WORDS = (SHIELDS + 63) / 64;
        private final long[] words = new long[WORDS];

        boolean has(int shield) {
            return Shields.isShield(shield) && (words[shield >> 6] >>> (shield & 63) & 1L) != 0L;
        }

        void add(int shield) {
            if (Shields.isShield(shield)) {
                words[shield >> 6] |= 1L << (shield & 63);
            }
        }

        void empty() {
            for (int i = 0; i < WORDS; i++) {
                words[i] = 0L;
            }
        }

        boolean isWordEmpty(int word) {
            return word < 0 || word >= WORDS || words[word] == 0L;
        }
    }

    /** The fewest sons in a line; in sets of bits, since rows with a number for each shield take much of the room. */
    private static final class LineSearch {
        /**
         * There are 24 ways between two shields that share no shield on the way, the longest with two
         * steps more than places that differ: the other 19 persons can't close them all.
         */
        private static final int MOST_DETOUR = 2;
        private final ShieldSet seen = new ShieldSet();
        private ShieldSet reached = new ShieldSet();
        private ShieldSet next = new ShieldSet();

        int fewest(Roll roll, int from, int to) {
            int apart = Shields.apart(from, to);
            for (int most = apart; most <= apart + MOST_DETOUR; most++) {
                if (reaches(roll, from, to, most)) {
                    return most;
                }
            }
            return NOT_FOUND;
        }

        private boolean reaches(Roll roll, int from, int to, int most) {
            seen.empty();
            reached.empty();
            seen.add(from);
            reached.add(from);
            for (int step = 1; step <= most; step++) {
                next.empty();
                goOn(roll, to, most - step);
                if (next.has(to)) {
                    return true;
                }
                ShieldSet old = reached;
                reached = next;
                next = old;
            }
            return false;
        }

        private void goOn(Roll roll, int to, int stepsLeft) {
            for (int word = 0; word < ShieldSet.WORDS; word++) {
                if (reached.isWordEmpty(word)) {
                    continue;
                }
                for (int shield = word * 64; shield < word * 64 + 64; shield++) {
                    if (reached.has(shield)) {
                        goOnFrom(roll, shield, to, stepsLeft);
                    }
                }
            }
        }

        /** A shield that is farther from the end than steps are left is not worth a look. */
        private void goOnFrom(Roll roll, int shield, int to, int stepsLeft) {
            for (int change = 0; change < PLACES * MARKS; change++) {
                int son = Shields.withMark(shield, change / MARKS, change % MARKS);
                if (Shields.apart(son, to) > stepsLeft || seen.has(son)) {
                    continue;
                }
                if (son == to || roll.livingWith(son) == NO_PERSON) {
                    seen.add(son);
                    next.add(son);
                }
            }
        }
    }
}
