import java.util.Arrays;

/**
 * A town in which an office goes on with its holder's understudy, as ../shared/DOC.md tells it.
 * All rows are made with the object and used again, as nothing that a call makes is ever given back.
 */
public final class DeadUnderstudies {
    public static final int NONE = -1;

    private static final int BAD_NUMBER = -1;
    private static final int NO_SUCH = -2;
    private static final int NOT_SO = -3;
    private static final int NO_ROOM = -5;
    private static final int BAD_TEXT = -6;

    private static final int STATES = 6;
    private static final int CUES = 6;
    private static final int RULES = STATES * CUES;
    private static final int WORDS = 10;
    private static final int ALL_WORDS = (1 << WORDS) - 1;
    private static final int STOPPED = 100;

    private static final int PART_ROOM = 6;
    private static final int PEOPLE_ROOM = 8;
    private static final int VERSION_ROOM = 12;
    private static final int CUE_ROOM = 12;
    private static final int DEED_ROOM = 12;
    private static final int ROWS = 4;
    private static final int LAW_ROOM = 6;
    private static final int IMAGE_ROOM = 2;
    private static final int TAPE_ROOM = 400;
    private static final int FEED_BYTES = 20;

    private static final int LAST_BIRTH = 200;
    private static final int LAST_YEAR = 300;
    private static final int MOST_MEMORY = 9;
    private static final int LAST_HOUR = 24;
    private static final int MOST_HANDS = 6;
    private static final int MOST_SEED = 1000000;
    private static final int MOST_LESSONS = 100;
    private static final int TALK_WORDS = 90;
    private static final long MOST_WAYS = 1000000000000000000L;

    private static final int YEAR = 0;
    private static final int MOOD = 1;
    private static final int SLIP = 2;
    private static final int TERMS = 3;

    private final Town town = new Town();
    private final Town[] images = {new Town(), new Town()};
    private final boolean[] kept = new boolean[IMAGE_ROOM];

    private final int[] tape = new int[TAPE_ROOM];
    private int tapeBytes = 0;
    private final Reader reader = new Reader();
    private final Program draft = new Program();
    private int prattleRules = 0;

    private int refusedBy = 0;
    private final int[] refusals = new int[5];

    private final Route route = new Route();
    private final Duet duet = new Duet();
    private final Least leastPart = new Least();
    private final Chain pupilChain = new Chain();
    private final Cast roles = new Cast();
    private final int[] ballots = new int[WORDS + 1];

    private boolean centuryKept = false;
    private final Script centuryScript = new Script();
    private final int[] pupilTimes = new int[PEOPLE_ROOM];
    private int centuryPeople = 0;

    public DeadUnderstudies() {
    }

    // ---- PARTS and their RULES

    public int part(int from, int till) {
        if (from < 0 || from >= LAST_HOUR || till <= from || till > LAST_HOUR) return refuse(BAD_NUMBER);
        if (town.parts >= PART_ROOM) return refuse(NO_ROOM);
        return accept(town.addPart(from, till));
    }

    public int rule(int part, int state, int cue, int word, int next) {
        if (!isRule(state, cue) || word < 0 || word >= WORDS || next < 0 || next >= STATES) {
            return refuse(BAD_NUMBER);
        }
        if (!town.hasPart(part)) return refuse(NO_SUCH);
        Script script = town.scriptOfPart(part);
        int had = script.wordAt(state, cue);
        script.setRule(state, cue, word, next);
        return accept(had);
    }

    public int hush(int part, int state, int cue) {
        if (!isRule(state, cue)) return refuse(BAD_NUMBER);
        if (!town.hasPart(part)) return refuse(NO_SUCH);
        Script script = town.scriptOfPart(part);
        int had = script.wordAt(state, cue);
        script.makeHole(state, cue);
        return accept(had);
    }

    public int of(int part, int state, int cue, int what) {
        if (!town.hasPart(part)) return NONE;
        return ruleFact(town.scriptOfPart(part), state, cue, what);
    }

    public int stage(int part, int what) {
        if (!town.hasPart(part)) return NONE;
        switch (what) {
            case 0: return town.from[part];
            case 1: return town.till[part];
            case 2: return town.scriptOfPart(part).filled();
            case 3: return town.versionsOf(part);
            default: return NONE;
        }
    }

    // ---- PEOPLE and TERMS

    public int person(int born, int dead, int memory) {
        if (born < 0 || born > LAST_BIRTH || dead <= born || dead > LAST_YEAR || !isMemory(memory)) {
            return refuse(BAD_NUMBER);
        }
        if (town.people.number >= PEOPLE_ROOM) return refuse(NO_ROOM);
        return accept(town.people.add(born, dead, memory));
    }

    public int put(int person, int what, int value) {
        // Whether a YEAR is above BORN is asked behind -2, as only the PERSON tells it.
        boolean canBe = what == 0 ? isYear(value) : what == 1 && isMemory(value);
        if (!canBe) return refuse(BAD_NUMBER);
        People people = town.people;
        if (!people.has(person)) return refuse(NO_SUCH);
        if (what == 0 && value <= people.born[person]) return refuse(BAD_NUMBER);
        int[] changed = what == 0 ? people.dead : people.memory;
        int was = changed[person];
        changed[person] = value;
        return accept(was);
    }

    public int fact(int person, int what) {
        People people = town.people;
        if (!people.has(person)) return NONE;
        switch (what) {
            case 0: return people.born[person];
            case 1: return people.dead[person];
            case 2: return people.memory[person];
            case 3: return town.isAlive(person) ? 1 : 0;
            default: return NONE;
        }
    }

    public int terms(int what, int value) {
        if (what < 0 || what >= TERMS || value < 0 || value > mostOfTerm(what)) return refuse(BAD_NUMBER);
        int was = town.terms[what];
        town.terms[what] = value;
        return accept(was);
    }

    // ---- The TAPE and what is read from it

    public int feed(int a, int b, int c, int d, int e) {
        if (tapeBytes > TAPE_ROOM - FEED_BYTES) return NONE;
        putBytes(a);
        putBytes(b);
        putBytes(c);
        putBytes(d);
        putBytes(e);
        return tapeBytes;
    }

    public int end(int n) {
        if (n < 0 || n > tapeBytes) return NONE;
        tapeBytes = n;
        return n;
    }

    public int row(int part) {
        if (!town.hasPart(part)) return refuse(NO_SUCH);
        if (tapeBytes == 0) return refuse(BAD_TEXT);
        Script script = town.scriptOfPart(part);
        int came = 0;
        prattleRules = 0;
        for (int at = 0; at < tapeBytes; at += 4) {
            if (takeRuleAt(at, script)) came++;
            else prattleRules++;
        }
        tapeBytes = 0;
        return accept(came);
    }

    public int prattle() {
        return prattleRules;
    }

    public int play(int part) {
        if (!town.hasPart(part)) return refuse(NO_SUCH);
        boolean whole = reader.read(tape, tapeBytes, true, draft);
        tapeBytes = 0;
        return whole ? accept(town.perform(draft, part)) : refuse(BAD_TEXT);
    }

    public int law() {
        int bytes = tapeBytes;
        tapeBytes = 0;
        if (town.laws >= LAW_ROOM) return refuse(NO_ROOM);
        return reader.read(tape, bytes, false, draft) ? accept(town.addLaw(draft)) : refuse(BAD_TEXT);
    }

    public int fault() {
        return reader.faultPlace;
    }

    public int force(int law) {
        if (law != NONE && !town.hasLaw(law)) return refuse(NO_SUCH);
        int was = town.inForce;
        town.inForce = law;
        return accept(was);
    }

    public int asks(int person, int part, int teacher, int what) {
        if (!town.people.has(person) || !town.hasPart(part)) return NONE;
        if (teacher != NONE && !town.people.has(teacher)) return NONE;
        if (what < 0 || what >= Program.LAW_KINDS) return NONE;
        town.hear(person, part, teacher, town.terms[YEAR]);
        return town.heard[what];
    }

    // ---- CUES and VERSIONS

    public int cue(int cue) {
        if (cue < 0 || cue >= CUES) return refuse(BAD_NUMBER);
        if (town.cues >= CUE_ROOM) return refuse(NO_ROOM);
        return accept(town.addCue(cue));
    }

    public int still() {
        int were = town.cues;
        town.cues = 0;
        return were;
    }

    public int begin(int part, int person) {
        if (!town.hasPart(part) || !town.people.has(person)) return refuse(NO_SUCH);
        if (!town.mayBegin(part, person)) return refuse(NOT_SO);
        if (town.versions >= VERSION_ROOM) return refuse(NO_ROOM);
        int version = town.addVersion(part, person, NONE);
        town.scriptOfVersion(version).copyFrom(town.scriptOfPart(part));
        return accept(version);
    }

    public int learn(int version, int person, int slip) {
        if (slip < NONE) return refuse(BAD_NUMBER);
        if (!town.hasVersion(version) || !town.people.has(person)) return refuse(NO_SUCH);
        if (!town.mayLearn(version, person)) return refuse(NOT_SO);
        if (town.versions >= VERSION_ROOM) return refuse(NO_ROOM);
        int learned = town.addVersion(town.versionPart[version], person, version);
        town.watch(town.scriptOfVersion(version), town.scriptOfVersion(learned), slip);
        return accept(learned);
    }

    public int undo() {
        if (town.versions <= 0) return refuse(NOT_SO);
        town.versions--;
        return accept(town.holder[town.versions]);
    }

    public int version(int version, int what) {
        if (!town.hasVersion(version)) return NONE;
        Script script = town.scriptOfVersion(version);
        switch (what) {
            case 0: return town.versionPart[version];
            case 1: return town.holder[version];
            case 2: return town.teacher[version];
            case 3: return script.filled();
            case 4: return script.rulesUnlike(town.scriptOfPart(town.versionPart[version]));
            default: return NONE;
        }
    }

    public int knows(int version, int state, int cue, int what) {
        if (!town.hasVersion(version)) return NONE;
        return ruleFact(town.scriptOfVersion(version), state, cue, what);
    }

    public int says(int version, int i) {
        if (!town.hasVersion(version) || i < 0 || i >= town.cues) return NONE;
        return town.wordAtCue(town.scriptOfVersion(version), i);
    }

    public int stops(int version) {
        if (!town.hasVersion(version)) return NONE;
        Script script = town.scriptOfVersion(version);
        for (int i = 0; i < town.cues; i++) {
            if (town.wordAtCue(script, i) == STOPPED) return i;
        }
        return NONE;
    }

    // ---- VERSIONS beside one another

    public int apart(int one, int other, int i) {
        if (!town.hasVersion(one) || !town.hasVersion(other)) return NONE;
        route.seek(town.scriptOfVersion(one), town.scriptOfVersion(other), false);
        return route.cueAt(i);
    }

    public int trap(int version, int i) {
        if (!town.hasVersion(version)) return NONE;
        Script script = town.scriptOfVersion(version);
        route.seek(script, script, true);
        return route.cueAt(i);
    }

    public int talk(int one, int other, int cue, int what) {
        if (!seatDuet(one, other, cue)) return NONE;
        if (what >= 10 && what < 10 + TALK_WORDS) return duet.wordBehind(cue, what - 10);
        duet.run(cue);
        switch (what) {
            case 0: return duet.stopsBehind;
            case 1: return duet.ahead;
            case 2: return duet.round;
            default: return NONE;
        }
    }

    public int mends(int one, int other, int cue, int what) {
        if (what < 0 || what > 2 || !seatDuet(one, other, cue)) return NONE;
        duet.mend(cue);
        switch (what) {
            case 0: return duet.ways;
            case 1: return duet.mendWord;
            default: return duet.mendNext;
        }
    }

    public int vote(int part, int what) {
        if (!town.hasPart(part) || town.cues == 0) return NONE;
        town.countVotes(part, ballots);
        int most = mostVotes();
        switch (what) {
            case 0: return most == 0 ? NONE : firstWordWith(most);
            case 1: return most == 0 ? NONE : most;
            case 2: return ballots[WORDS];
            default: return NONE;
        }
    }

    public long drift(int n, int k) {
        if (n < 0 || n > MOST_HANDS || k < 0 || k >= WORDS) return NONE;
        return chances(n, k, town.terms[SLIP]);
    }

    public int origin(int part, int state, int cue) {
        if (!town.hasPart(part) || !isRule(state, cue)) return NONE;
        town.countTellers(part, state, cue, ballots);
        int most = mostVotes();
        return most == 0 ? 0 : wordsWith(most);
    }

    public long origins(int part, int what) {
        if (!town.hasPart(part) || what < 0 || what > 1) return NONE;
        long slips = 0;
        long ways = 1;
        for (int at = 0; at < RULES; at++) {
            town.countTellers(part, at / CUES, at % CUES, ballots);
            int most = mostVotes();
            if (most == 0) continue;
            slips += allVotes() - most;
            ways = timesAtMost(ways, Integer.bitCount(wordsWith(most)));
        }
        return what == 0 ? slips : ways;
    }

    // ---- PEOPLE beside one another

    public int chain(int part, int person, int what) {
        if (!town.hasPart(part) || !town.people.has(person)) return NONE;
        pupilChain.lay(town, part);
        if (what == 20) return pupilChain.needless(person);
        pupilChain.seek(person, NONE);
        if (what == 0) return pupilChain.latest;
        if (what == 1) return pupilChain.length;
        return pupilChain.personAt(what - 2);
    }

    public int cast(int what) {
        roles.lay(town);
        roles.solve();
        if (what == 0) return roles.fewest;
        if (what == 20) return roles.rows;
        return roles.fewest < 0 ? NONE : roles.playerOf(what - 1);
    }

    // ---- DEEDS

    public int deed(int row, int cue, int word) {
        if (row < 0 || row >= ROWS || cue < 0 || cue >= CUES || word < 0 || word >= WORDS) {
            return refuse(BAD_NUMBER);
        }
        if (town.deeds.number >= DEED_ROOM) return refuse(NO_ROOM);
        return accept(town.deeds.add(row, cue, word));
    }

    public int forget() {
        int were = town.deeds.number;
        town.deeds.number = 0;
        return were;
    }

    public int judge(int version) {
        if (!town.hasVersion(version)) return NONE;
        return town.deeds.firstNotSo(town.scriptOfVersion(version));
    }

    public int least(int what) {
        if (what < 0 || what > 1) return NONE;
        leastPart.lay(town.deeds);
        int fewest = leastPart.fewestStates();
        if (what == 0) return fewest;
        return fewest < 0 ? 0 : leastPart.countWays(fewest);
    }

    public int would(int row, int cue) {
        if (row < 0 || row >= ROWS || cue < 0 || cue >= CUES) return NONE;
        leastPart.lay(town.deeds);
        int fewest = leastPart.fewestStates();
        return fewest < 0 ? NONE : leastPart.wordsBehind(fewest, row, cue);
    }

    // ---- CENTURIES

    public int century(int seed, int part, int n) {
        if (seed < 0 || seed > MOST_SEED || n < 0 || n > MOST_LESSONS) return refuse(BAD_NUMBER);
        if (!town.hasPart(part)) return refuse(NO_SUCH);
        runCentury(seed, part, n);
        return accept(centuryScript.wordsUnlike(town.scriptOfPart(part)));
    }

    public int drawn(int state, int cue, int what) {
        if (!centuryKept) return NONE;
        if (what == 0) return centuryScript.wordAt(state, cue);
        return what == 1 && cue == 0 ? pupilTimesOf(state) : NONE;
    }

    // ---- IMAGES and what is counted

    public int image(int k) {
        if (k < 0 || k >= IMAGE_ROOM) return refuse(BAD_NUMBER);
        images[k].copyFrom(town);
        kept[k] = true;
        return accept(0);
    }

    public int back(int k) {
        if (k < 0 || k >= IMAGE_ROOM) return refuse(BAD_NUMBER);
        if (!kept[k]) return refuse(NO_SUCH);
        town.copyFrom(images[k]);
        return accept(0);
    }

    public int count(int what) {
        if (what >= 7 && what <= 11) return refusals[what - 7];
        if (what >= 13 && what <= 15) return town.terms[what - 13];
        switch (what) {
            case 0: return town.parts;
            case 1: return town.people.number;
            case 2: return town.versions;
            case 3: return town.laws;
            case 4: return town.cues;
            case 5: return town.deeds.number;
            case 6: return tapeBytes;
            case 12: return town.inForce;
            default: return NONE;
        }
    }

    public int status() {
        return refusedBy;
    }

    // ---- What the calls above share

    private int accept(int answer) {
        refusedBy = 0;
        return answer;
    }

    private int refuse(int why) {
        refusedBy = why;
        switch (why) {
            case BAD_NUMBER: refusals[0]++; break;
            case NO_SUCH: refusals[1]++; break;
            case NOT_SO: refusals[2]++; break;
            case NO_ROOM: refusals[3]++; break;
            default: refusals[4]++; break;
        }
        return why;
    }

    private static boolean isRule(int state, int cue) {
        return state >= 0 && state < STATES && cue >= 0 && cue < CUES;
    }

    private static boolean isYear(int year) {
        return year >= 0 && year <= LAST_YEAR;
    }

    private static boolean isMemory(int memory) {
        return memory > 0 && memory <= MOST_MEMORY;
    }

    private static int mostOfTerm(int what) {
        return what == YEAR ? LAST_YEAR : what == MOOD ? 9 : 100;
    }

    private static int oneMore(int word) {
        return word + 1 >= WORDS ? 0 : word + 1;
    }

    private static int nearest(long value, int most) {
        return value < 0 ? 0 : value > most ? most : (int) value;
    }

    private static int ruleFact(Script script, int state, int cue, int what) {
        if (what == 0) return script.wordAt(state, cue);
        return what == 1 ? script.nextAt(state, cue) : NONE;
    }

    private void putBytes(int four) {
        for (int shift = 24; shift >= 0 && tapeBytes < TAPE_ROOM; shift -= 8) {
            tape[tapeBytes] = four >>> shift & 255;
            tapeBytes++;
        }
    }

    private boolean takeRuleAt(int at, Script script) {
        if (at < 0 || at + 3 >= tapeBytes) return false;
        int state = tape[at];
        int cue = tape[at + 1];
        int word = tape[at + 2];
        int next = tape[at + 3];
        if (!isRule(state, cue) || word >= WORDS || next >= STATES) return false;
        script.setRule(state, cue, word, next);
        return true;
    }

    private boolean seatDuet(int one, int other, int cue) {
        if (!town.hasVersion(one) || !town.hasVersion(other) || cue < 0 || cue >= CUES) return false;
        duet.seat(town.scriptOfVersion(one), town.scriptOfVersion(other), one == other);
        return true;
    }

    private int mostVotes() {
        int most = 0;
        for (int word = 0; word < WORDS; word++) most = Math.max(most, ballots[word]);
        return most;
    }

    private int allVotes() {
        int all = 0;
        for (int word = 0; word < WORDS; word++) all += ballots[word];
        return all;
    }

    private int firstWordWith(int votes) {
        for (int word = 0; word < WORDS; word++) {
            if (ballots[word] == votes) return word;
        }
        return NONE;
    }

    private int wordsWith(int votes) {
        int bits = 0;
        for (int word = 0; word < WORDS; word++) {
            if (ballots[word] == votes) bits |= 1 << word;
        }
        return bits;
    }

    private static long timesAtMost(long ways, int more) {
        return more > 0 && ways > MOST_WAYS / more ? MOST_WAYS : ways * more;
    }

    private static long chances(int n, int k, int slip) {
        // So few hands never bring a WORD all the way round.
        if (k > n) return 0;
        long ways = 1;
        for (int hand = 1; hand <= n; hand++) {
            ways *= hand <= k ? slip : 100 - slip;
        }
        long chosen = 1;
        for (int hand = 1; hand <= k; hand++) chosen = chosen * (n - k + hand) / hand;
        return ways * chosen;
    }

    private void runCentury(int seed, int part, int lessons) {
        centuryKept = true;
        centuryScript.copyFrom(town.scriptOfPart(part));
        Arrays.fill(pupilTimes, 0);
        int people = town.people.number;
        centuryPeople = people;
        if (people <= 0) return;
        int s = seed;
        for (int lesson = 0; lesson < lessons; lesson++) {
            s = nextSeed(s);
            int pupil = s % people;
            if (pupil < 0 || pupil >= PEOPLE_ROOM) return;
            pupilTimes[pupil]++;
            town.hear(pupil, part, NONE, town.terms[YEAR]);
            s = seedBehindLesson(s, town.heard[Program.SLIPS]);
        }
    }

    private int pupilTimesOf(int person) {
        // BACK leaves the CENTURY as it is, so it tells of its own PEOPLE when they are gone, too.
        boolean known = person < centuryPeople || town.people.has(person);
        return known && person >= 0 && person < PEOPLE_ROOM ? pupilTimes[person] : NONE;
    }

    private int seedBehindLesson(int seed, int slips) {
        int s = seed;
        for (int at = 0; at < RULES; at++) {
            int word = centuryScript.wordAt(at / CUES, at % CUES);
            if (word < 0) continue;
            s = nextSeed(s);
            if (s % 100 < slips) centuryScript.changeWord(at / CUES, at % CUES, oneMore(word));
        }
        return s;
    }

    private static int nextSeed(int s) {
        // From below 1,000,003 an int does not go round here.
        return (s * 1103 + 12345) % 1000003;
    }

    /** A HOLE is NONE in both rows, so that RULES are compared without a look at what they are. */
    private static final class Script {
        private final int[] words = new int[RULES];
        private final int[] nexts = new int[RULES];

        Script() {
            clear();
        }

        void clear() {
            Arrays.fill(words, NONE);
            Arrays.fill(nexts, NONE);
        }

        void copyFrom(Script that) {
            System.arraycopy(that.words, 0, words, 0, RULES);
            System.arraycopy(that.nexts, 0, nexts, 0, RULES);
        }

        int wordAt(int state, int cue) {
            return isRule(state, cue) ? words[state * CUES + cue] : NONE;
        }

        int nextAt(int state, int cue) {
            return isRule(state, cue) ? nexts[state * CUES + cue] : NONE;
        }

        void setRule(int state, int cue, int word, int next) {
            if (!isRule(state, cue)) return;
            words[state * CUES + cue] = word;
            nexts[state * CUES + cue] = next;
        }

        void changeWord(int state, int cue, int word) {
            if (isRule(state, cue)) words[state * CUES + cue] = word;
        }

        void makeHole(int state, int cue) {
            setRule(state, cue, NONE, NONE);
        }

        int filled() {
            int rules = 0;
            for (int at = 0; at < RULES; at++) {
                if (words[at] >= 0) rules++;
            }
            return rules;
        }

        int wordsUnlike(Script that) {
            int rules = 0;
            for (int at = 0; at < RULES; at++) {
                if (words[at] != that.words[at]) rules++;
            }
            return rules;
        }

        int rulesUnlike(Script that) {
            int rules = 0;
            for (int at = 0; at < RULES; at++) {
                if (words[at] != that.words[at] || nexts[at] != that.nexts[at]) rules++;
            }
            return rules;
        }
    }

    private static final class People {
        private int number = 0;
        private final int[] born = new int[PEOPLE_ROOM];
        private final int[] dead = new int[PEOPLE_ROOM];
        private final int[] memory = new int[PEOPLE_ROOM];

        boolean has(int person) {
            return person >= 0 && person < number && person < PEOPLE_ROOM;
        }

        int add(int bornIn, int deadFrom, int remembers) {
            if (number >= PEOPLE_ROOM) return NONE;
            born[number] = bornIn;
            dead[number] = deadFrom;
            memory[number] = remembers;
            number++;
            return number - 1;
        }

        void copyFrom(People that) {
            number = that.number;
            System.arraycopy(that.born, 0, born, 0, PEOPLE_ROOM);
            System.arraycopy(that.dead, 0, dead, 0, PEOPLE_ROOM);
            System.arraycopy(that.memory, 0, memory, 0, PEOPLE_ROOM);
        }

        boolean isAlive(int person, int year) {
            return has(person) && born[person] <= year && year < dead[person];
        }

        int firstYearTogether(int one, int other) {
            return has(one) && has(other) ? Math.max(born[one], born[other]) : NONE;
        }

        int yearsTogether(int one, int other) {
            if (!has(one) || !has(other)) return 0;
            return Math.min(dead[one], dead[other]) - firstYearTogether(one, other);
        }
    }

    private static final class Deeds {
        private int number = 0;
        private final int[] rows = new int[DEED_ROOM];
        private final int[] cues = new int[DEED_ROOM];
        private final int[] words = new int[DEED_ROOM];
        private final int[] states = new int[ROWS];

        int add(int row, int cue, int word) {
            if (number >= DEED_ROOM) return NONE;
            rows[number] = row;
            cues[number] = cue;
            words[number] = word;
            number++;
            return number;
        }

        void copyFrom(Deeds that) {
            number = that.number;
            System.arraycopy(that.rows, 0, rows, 0, DEED_ROOM);
            System.arraycopy(that.cues, 0, cues, 0, DEED_ROOM);
            System.arraycopy(that.words, 0, words, 0, DEED_ROOM);
        }

        int firstNotSo(Script script) {
            Arrays.fill(states, 0);
            for (int i = 0; i < number && i < DEED_ROOM; i++) {
                int row = rows[i];
                if (row < 0 || row >= ROWS || script.wordAt(states[row], cues[i]) != words[i]) return i;
                states[row] = script.nextAt(states[row], cues[i]);
            }
            return NONE;
        }
    }

    /** A TEXT's SUMS and TESTS are steps for a stack, so that telling them makes no objects and goes no depth. */
    private static final class Program {
        // It lies beyond all that a SUM may tell: so one look finds what is too large and what was divided by 0.
        private static final long BROKEN = -4000000000000000000L;
        private static final long MOST_VALUE = 1000000000L;
        private static final int CLAUSE_ROOM = 12;
        private static final int STACK_ROOM = 64;
        private static final int ANYWHERE = STATES;

        // A LAW's kinds have the numbers that asks() has for what they tell.
        private static final int SLIPS = 0;
        private static final int HOURS = 1;
        private static final int BARS = 2;
        private static final int SAY = 3;
        private static final int HUSH = 4;
        private static final int LAW_KINDS = 3;

        private static final int CLOSE = 0;
        private static final int NUMBER = 1;
        private static final int NAME = 2;
        private static final int NOT = 3;
        private static final int AND = 4;
        private static final int OR = 5;
        private static final int ADD = 6;
        private static final int SUBTRACT = 7;
        private static final int TIMES = 8;
        private static final int DIVIDE = 9;
        private static final int REST = 10;
        private static final int BELOW = 11;
        private static final int ABOVE = 12;
        private static final int SAME = 13;

        private int size = 0;
        private final int[] steps = new int[TAPE_ROOM];
        private final int[] items = new int[TAPE_ROOM];
        private final long[] stack = new long[STACK_ROOM];
        private int clauses = 0;
        private final int[] kinds = new int[CLAUSE_ROOM];
        private final int[] states = new int[CLAUSE_ROOM];
        private final int[] cues = new int[CLAUSE_ROOM];
        private final int[] sums = new int[CLAUSE_ROOM];
        private final int[] goes = new int[CLAUSE_ROOM];
        private final int[] tests = new int[CLAUSE_ROOM];

        void clear() {
            size = 0;
            clauses = 0;
        }

        void copyFrom(Program that) {
            size = that.size;
            clauses = that.clauses;
            System.arraycopy(that.steps, 0, steps, 0, TAPE_ROOM);
            System.arraycopy(that.items, 0, items, 0, TAPE_ROOM);
            System.arraycopy(that.kinds, 0, kinds, 0, CLAUSE_ROOM);
            System.arraycopy(that.states, 0, states, 0, CLAUSE_ROOM);
            System.arraycopy(that.cues, 0, cues, 0, CLAUSE_ROOM);
            System.arraycopy(that.sums, 0, sums, 0, CLAUSE_ROOM);
            System.arraycopy(that.goes, 0, goes, 0, CLAUSE_ROOM);
            System.arraycopy(that.tests, 0, tests, 0, CLAUSE_ROOM);
        }

        void openClause(int kind, int state, int cue) {
            if (clauses >= CLAUSE_ROOM) return;
            kinds[clauses] = kind;
            states[clauses] = state;
            cues[clauses] = cue;
            sums[clauses] = NONE;
            goes[clauses] = NONE;
            tests[clauses] = NONE;
            clauses++;
        }

        void startHere(int[] starts) {
            if (clauses > 0 && clauses <= CLAUSE_ROOM) starts[clauses - 1] = size;
        }

        void emit(int step, int item) {
            if (size >= TAPE_ROOM) return;
            steps[size] = step;
            items[size] = item;
            size++;
        }

        void leapToHere(int from) {
            if (from >= 0 && from < size) items[from] = size;
        }

        boolean isAt(int clause, int state, int cue) {
            return (states[clause] == ANYWHERE || states[clause] == state)
                && (cues[clause] == ANYWHERE || cues[clause] == cue);
        }

        boolean isSo(int clause, int[] values) {
            return tests[clause] < 0 || tell(tests[clause], values) == 1;
        }

        /** A TEST tells 1 or 0: so one stack does for it and its SUMS. */
        long tell(int start, int[] values) {
            int height = 0;
            for (int at = Math.max(start, 0); at < size && steps[at] != CLOSE; at++) {
                int step = steps[at];
                int item = items[at];
                if (step == NUMBER || step == NAME) {
                    if (height >= stack.length) return BROKEN;
                    stack[height] = step == NUMBER ? item : valueOf(item, values);
                    height++;
                    continue;
                }
                if (height < 1) return BROKEN;
                long top = stack[height - 1];
                if (step == NOT) {
                    stack[height - 1] = 1 - top;
                } else if (step == AND || step == OR) {
                    boolean settled = top == (step == OR ? 1 : 0);
                    if (settled) at = Math.max(at, item - 1);
                    else height--;
                } else {
                    if (height < 2) return BROKEN;
                    long value = combine(step, stack[height - 2], top);
                    if (value > MOST_VALUE || value < -MOST_VALUE) return BROKEN;
                    height--;
                    stack[height - 1] = value;
                }
            }
            return height == 1 ? stack[0] : BROKEN;
        }

        private static long valueOf(int name, int[] values) {
            return name >= 0 && name < values.length ? values[name] : NONE;
        }

        private static long combine(int step, long one, long other) {
            switch (step) {
                case ADD: return one + other;
                case SUBTRACT: return one - other;
                case TIMES: return one * other;
                case DIVIDE: return other == 0 ? BROKEN : one / other;
                case REST: return other == 0 ? BROKEN : one % other;
                case BELOW: return one < other ? 1 : 0;
                case ABOVE: return one > other ? 1 : 0;
                default: return one == other ? 1 : 0;
            }
        }
    }

    /** Just what an IMAGE keeps. */
    private static final class Town {
        private int parts = 0;
        private final int[] from = new int[PART_ROOM];
        private final int[] till = new int[PART_ROOM];
        private final Script[] partScripts = new Script[PART_ROOM];
        private final People people = new People();
        private int versions = 0;
        private final int[] versionPart = new int[VERSION_ROOM];
        private final int[] holder = new int[VERSION_ROOM];
        private final int[] teacher = new int[VERSION_ROOM];
        private final Script[] versionScripts = new Script[VERSION_ROOM];
        private int cues = 0;
        private final int[] cueRow = new int[CUE_ROOM];
        private final Deeds deeds = new Deeds();
        private final int[] terms = {0, 0, 10};
        private int laws = 0;
        private int inForce = NONE;
        private final Program[] lawTexts = new Program[LAW_ROOM];
        private final int[] heard = new int[Program.LAW_KINDS];
        private final int[] values = new int[8];

        Town() {
            for (int i = 0; i < PART_ROOM; i++) partScripts[i] = new Script();
            for (int i = 0; i < VERSION_ROOM; i++) versionScripts[i] = new Script();
            for (int i = 0; i < LAW_ROOM; i++) lawTexts[i] = new Program();
        }

        void copyFrom(Town that) {
            parts = that.parts;
            System.arraycopy(that.from, 0, from, 0, PART_ROOM);
            System.arraycopy(that.till, 0, till, 0, PART_ROOM);
            for (int i = 0; i < PART_ROOM; i++) partScripts[i].copyFrom(that.partScripts[i]);
            people.copyFrom(that.people);
            versions = that.versions;
            System.arraycopy(that.versionPart, 0, versionPart, 0, VERSION_ROOM);
            System.arraycopy(that.holder, 0, holder, 0, VERSION_ROOM);
            System.arraycopy(that.teacher, 0, teacher, 0, VERSION_ROOM);
            for (int i = 0; i < VERSION_ROOM; i++) versionScripts[i].copyFrom(that.versionScripts[i]);
            cues = that.cues;
            System.arraycopy(that.cueRow, 0, cueRow, 0, CUE_ROOM);
            deeds.copyFrom(that.deeds);
            System.arraycopy(that.terms, 0, terms, 0, TERMS);
            laws = that.laws;
            inForce = that.inForce;
            for (int i = 0; i < laws && i < LAW_ROOM; i++) lawTexts[i].copyFrom(that.lawTexts[i]);
        }

        boolean hasPart(int part) {
            return part >= 0 && part < parts && part < PART_ROOM;
        }

        boolean hasVersion(int version) {
            return version >= 0 && version < versions && version < VERSION_ROOM;
        }

        boolean hasLaw(int law) {
            return law >= 0 && law < laws && law < LAW_ROOM;
        }

        Script scriptOfPart(int part) {
            return partScripts[part >= 0 && part < PART_ROOM ? part : 0];
        }

        Script scriptOfVersion(int version) {
            return versionScripts[version >= 0 && version < VERSION_ROOM ? version : 0];
        }

        int addPart(int fromHour, int tillHour) {
            if (parts >= PART_ROOM) return NONE;
            from[parts] = fromHour;
            till[parts] = tillHour;
            partScripts[parts].clear();
            parts++;
            return parts - 1;
        }

        int addVersion(int part, int person, int learnedFrom) {
            if (versions >= VERSION_ROOM) return NONE;
            versionPart[versions] = part;
            holder[versions] = person;
            teacher[versions] = learnedFrom;
            versionScripts[versions].clear();
            versions++;
            return versions - 1;
        }

        int addLaw(Program text) {
            if (laws >= LAW_ROOM) return NONE;
            lawTexts[laws].copyFrom(text);
            laws++;
            return laws - 1;
        }

        int addCue(int cue) {
            if (cues >= CUE_ROOM) return NONE;
            cueRow[cues] = cue;
            cues++;
            return cues;
        }

        int versionsOf(int part) {
            int number = 0;
            for (int i = 0; i < versions && i < VERSION_ROOM; i++) {
                if (versionPart[i] == part) number++;
            }
            return number;
        }

        boolean isAlive(int person) {
            return people.isAlive(person, terms[YEAR]);
        }

        boolean mayBegin(int part, int person) {
            if (!isAlive(person)) return false;
            hear(person, part, NONE, terms[YEAR]);
            return heard[Program.BARS] == 0;
        }

        boolean mayLearn(int version, int person) {
            if (!hasVersion(version)) return false;
            int master = holder[version];
            if (master == person || !isAlive(master) || !isAlive(person)) return false;
            return isTaught(versionPart[version], master, person, terms[YEAR]);
        }

        boolean isTaught(int part, int master, int pupil, int year) {
            hear(pupil, part, master, year);
            return heard[Program.BARS] == 0 && people.yearsTogether(master, pupil) >= heard[Program.HOURS];
        }

        /** Leaves three answers in heard, as all of them come of one way through the LAW. */
        void hear(int person, int part, int master, int year) {
            heard[Program.SLIPS] = terms[SLIP];
            heard[Program.HOURS] = 1;
            heard[Program.BARS] = 0;
            if (!hasLaw(inForce) || !people.has(person)) return;
            values[0] = person;
            values[1] = people.memory[person];
            values[2] = people.born[person];
            values[3] = people.dead[person];
            values[4] = part;
            values[5] = master;
            values[6] = year;
            values[7] = terms[MOOD];
            Program text = lawTexts[inForce];
            for (int i = 0; i < text.clauses && i < Program.CLAUSE_ROOM; i++) {
                if (text.isSo(i, values)) hearClause(text, i);
            }
        }

        private void hearClause(Program text, int clause) {
            if (text.kinds[clause] == Program.BARS) {
                heard[Program.BARS] = 1;
                return;
            }
            long told = text.tell(text.sums[clause], values);
            if (told == Program.BROKEN) return;
            if (text.kinds[clause] == Program.SLIPS) heard[Program.SLIPS] = nearest(told, 100);
            else heard[Program.HOURS] = nearest(told, 99);
        }

        int perform(Program text, int part) {
            int done = 0;
            for (int i = 0; i < text.clauses && i < Program.CLAUSE_ROOM; i++) {
                for (int at = 0; at < RULES; at++) {
                    int state = at / CUES;
                    int cue = at % CUES;
                    if (text.isAt(i, state, cue) && performAt(text, i, part, state, cue)) done++;
                }
            }
            return done;
        }

        private boolean performAt(Program text, int clause, int part, int state, int cue) {
            Script script = scriptOfPart(part);
            values[0] = state;
            values[1] = cue;
            values[2] = script.wordAt(state, cue);
            values[3] = script.nextAt(state, cue);
            values[4] = part;
            values[5] = terms[MOOD];
            if (!text.isSo(clause, values)) return false;
            if (text.kinds[clause] == Program.HUSH) {
                script.makeHole(state, cue);
                return true;
            }
            long word = text.tell(text.sums[clause], values);
            long next = text.goes[clause] < 0 ? state : text.tell(text.goes[clause], values);
            if (word == Program.BROKEN || next == Program.BROKEN) return false;
            script.setRule(state, cue, nearest(word, WORDS - 1), nearest(next, STATES - 1));
            return true;
        }

        int wordAtCue(Script script, int i) {
            int word = STOPPED;
            int state = 0;
            for (int k = 0; k <= i && k < cues && k < CUE_ROOM; k++) {
                word = script.wordAt(state, cueRow[k]);
                if (word < 0) return STOPPED;
                state = script.nextAt(state, cueRow[k]);
            }
            return word;
        }

        void watch(Script played, Script learned, int slip) {
            int met = 0;
            int state = 0;
            for (int k = 0; k < cues && k < CUE_ROOM; k++) {
                int cue = cueRow[k];
                int word = played.wordAt(state, cue);
                if (word < 0) return;
                int next = played.nextAt(state, cue);
                if (learned.wordAt(state, cue) < 0) {
                    learned.setRule(state, cue, met == slip ? oneMore(word) : word, next);
                    met++;
                }
                state = next;
            }
        }

        void countVotes(int part, int[] votes) {
            Arrays.fill(votes, 0);
            for (int i = 0; i < versions && i < VERSION_ROOM; i++) {
                if (versionPart[i] != part || !isAlive(holder[i])) continue;
                int word = wordAtCue(versionScripts[i], cues - 1);
                int box = word == STOPPED ? WORDS : word;
                if (box >= 0 && box < votes.length) votes[box]++;
            }
        }

        void countTellers(int part, int state, int cue, int[] tellers) {
            Arrays.fill(tellers, 0);
            for (int i = 0; i < versions && i < VERSION_ROOM; i++) {
                if (versionPart[i] != part) continue;
                int word = versionScripts[i].wordAt(state, cue);
                if (word >= 0 && word < tellers.length) tellers[word]++;
            }
        }
    }

    /** What is still open waits in rows, not in open calls, so that no TEXT is too deep for it. */
    private static final class Reader {
        private static final int PART_LIMIT = 50;
        private static final int BRACKET_LIMIT = 8;
        private static final int NUMBER_LIMIT = 1000;

        // Where in its innermost bracket a TEXT is: that alone tells which TOKENS can go on.
        private static final int IN_SUM = 0;
        private static final int AT_PLAIN = 1;
        private static final int LEFT_SUM = 2;
        private static final int RIGHT_SUM = 3;
        private static final int BEHIND_TEST = 4;

        // An open bracket waits as a CLOSE, which is weaker than all, so that nothing is emitted across it.
        private static final int WEAKEST = 1;
        private static final int COMPARING = 4;

        private int[] tape = new int[0];
        private int length = 0;
        private int start = 0;
        private int stop = 0;
        private int faultPlace = NONE;
        private boolean isPlay = false;
        private Program program = new Program();
        private int partsRead = 0;
        private int brackets = 0;
        private final int[] stages = new int[BRACKET_LIMIT + 1];
        private int waiting = 0;
        private final int[] waitingSteps = new int[TAPE_ROOM];
        private final int[] waitingLeaps = new int[TAPE_ROOM];

        boolean read(int[] bytes, int number, boolean asPlay, Program into) {
            tape = bytes;
            length = Math.min(number, tape.length);
            stop = 0;
            faultPlace = NONE;
            isPlay = asPlay;
            program = into;
            program.clear();
            partsRead = 0;
            advance();
            for (int clause = 0; clause < Program.CLAUSE_ROOM; clause++) {
                boolean fits = isPlay ? readPlayClause() : readLawClause();
                if (!fits || !readIf()) return false;
                if (start >= length) return true;
                if (!isSign(';')) return fail();
                advance();
            }
            return fail();
        }

        private boolean readPlayClause() {
            if (!takeWord("in")) return false;
            int state = placeHere();
            if (state < 0) return fail();
            advance();
            if (!takeWord("at")) return false;
            int cue = placeHere();
            if (cue < 0) return fail();
            advance();
            boolean hush = isWord("hush");
            if (!hush && !isWord("say")) return fail();
            advance();
            program.openClause(hush ? Program.HUSH : Program.SAY, state, cue);
            if (hush) return true;
            if (!readExpression(program.sums, IN_SUM)) return false;
            if (!isWord("go")) return true;
            advance();
            return readExpression(program.goes, IN_SUM);
        }

        private boolean readLawClause() {
            boolean bars = isWord("bars");
            boolean slips = isWord("slips");
            if (!bars && !slips && !isWord("hours")) return fail();
            advance();
            program.openClause(bars ? Program.BARS : slips ? Program.SLIPS : Program.HOURS, NONE, NONE);
            return bars || readExpression(program.sums, IN_SUM);
        }

        private boolean readIf() {
            if (!isWord("if")) return true;
            advance();
            return readExpression(program.tests, AT_PLAIN);
        }

        private boolean readExpression(int[] starts, int stage) {
            program.startHere(starts);
            brackets = 0;
            setStage(stage);
            waiting = 0;
            boolean partRead = false;
            for (int token = 0; token <= TAPE_ROOM; token++) {
                if (!partRead) {
                    partRead = isPart();
                    if (!(partRead ? readPart() : readOpening())) return false;
                } else if (isClosing()) {
                    readClosing();
                } else {
                    int step = operatorHere();
                    if (step == NONE) return closeExpression();
                    readOperator(step);
                    partRead = false;
                }
            }
            return fail();
        }

        private boolean isPart() {
            return isDigit(start) || nameHere() >= 0;
        }

        private boolean readPart() {
            int number = numberHere();
            if (number > NUMBER_LIMIT || partsRead >= PART_LIMIT) return fail();
            partsRead++;
            if (number >= 0) program.emit(Program.NUMBER, number);
            else program.emit(Program.NAME, nameHere());
            openSum();
            advance();
            return true;
        }

        private boolean readOpening() {
            boolean atPlain = stageHere() == AT_PLAIN;
            boolean opensTest = atPlain && isSign('(');
            if (atPlain && isWord("not")) {
                push(Program.NOT, NONE);
            } else if ((opensTest || isSign('[')) && brackets < BRACKET_LIMIT) {
                if (!opensTest) openSum();
                push(Program.CLOSE, NONE);
                brackets++;
                setStage(opensTest ? AT_PLAIN : IN_SUM);
            } else {
                return fail();
            }
            advance();
            return true;
        }

        private void openSum() {
            if (stageHere() == AT_PLAIN) setStage(LEFT_SUM);
        }

        private boolean isClosing() {
            if (brackets <= 0) return false;
            return isSign(']') ? stageHere() == IN_SUM : isSign(')') && isWholeTest();
        }

        private void readClosing() {
            reduce(WEAKEST);
            if (waiting > 0) waiting--;
            brackets--;
            if (isSign(')')) setStage(BEHIND_TEST);
            advance();
        }

        private boolean isWholeTest() {
            return stageHere() == RIGHT_SUM || stageHere() == BEHIND_TEST;
        }

        private int stageHere() {
            return brackets >= 0 && brackets < stages.length ? stages[brackets] : IN_SUM;
        }

        private void setStage(int stage) {
            if (brackets >= 0 && brackets < stages.length) stages[brackets] = stage;
        }

        private int operatorHere() {
            if (isWholeTest() && isWord("and")) return Program.AND;
            if (isWholeTest() && isWord("or")) return Program.OR;
            if (stageHere() == BEHIND_TEST || start >= length) return NONE;
            boolean comparable = stageHere() == LEFT_SUM;
            switch (tape[start]) {
                case '+': return Program.ADD;
                case '-': return Program.SUBTRACT;
                case '*': return Program.TIMES;
                case '/': return Program.DIVIDE;
                case '%': return Program.REST;
                case '<': return comparable ? Program.BELOW : NONE;
                case '>': return comparable ? Program.ABOVE : NONE;
                case '=': return comparable ? Program.SAME : NONE;
                default: return NONE;
            }
        }

        private void readOperator(int step) {
            reduce(strength(step));
            int leap = program.size;
            boolean joins = step == Program.AND || step == Program.OR;
            if (joins) program.emit(step, 0);
            push(step, leap);
            if (joins) setStage(AT_PLAIN);
            else if (strength(step) == COMPARING) setStage(RIGHT_SUM);
            advance();
        }

        private boolean closeExpression() {
            if (brackets > 0 || stageHere() != IN_SUM && !isWholeTest()) return fail();
            reduce(WEAKEST);
            program.emit(Program.CLOSE, 0);
            return true;
        }

        private void push(int step, int leap) {
            if (waiting >= TAPE_ROOM) return;
            waitingSteps[waiting] = step;
            waitingLeaps[waiting] = leap;
            waiting++;
        }

        private void reduce(int least) {
            while (waiting > 0 && strength(waitingSteps[waiting - 1]) >= least) {
                waiting--;
                int step = waitingSteps[waiting];
                if (step == Program.AND || step == Program.OR) program.leapToHere(waitingLeaps[waiting]);
                else program.emit(step, 0);
            }
        }

        private static int strength(int step) {
            switch (step) {
                case Program.CLOSE: return 0;
                case Program.OR: return WEAKEST;
                case Program.AND: return 2;
                case Program.NOT: return 3;
                case Program.ADD: case Program.SUBTRACT: return 5;
                case Program.TIMES: case Program.DIVIDE: case Program.REST: return 6;
                default: return COMPARING;
            }
        }

        private int nameHere() {
            // The numbers are the places that Town.performAt and Town.hear give to the values.
            if (isWord("part")) return 4;
            if (isWord("mood")) return isPlay ? 5 : 7;
            if (isPlay) return isWord("state") ? 0 : isWord("cue") ? 1 : isWord("word") ? 2 : isWord("next") ? 3 : NONE;
            if (isWord("person")) return 0;
            if (isWord("memory")) return 1;
            if (isWord("born")) return 2;
            if (isWord("dead")) return 3;
            if (isWord("teacher")) return 5;
            return isWord("year") ? 6 : NONE;
        }

        private int placeHere() {
            if (isWord("any")) return Program.ANYWHERE;
            int number = numberHere();
            return number < STATES ? number : NONE;
        }

        private boolean fail() {
            faultPlace = start;
            return false;
        }

        private boolean takeWord(String word) {
            if (!isWord(word)) return fail();
            advance();
            return true;
        }

        private void advance() {
            // At the end start is the TEXT's length, which is where its FAULT is.
            start = stop;
            while (start < length && tape[start] == ' ') start++;
            stop = start;
            if (start >= length) return;
            boolean letters = isLetter(start);
            boolean digits = isDigit(start);
            stop++;
            while (stop < length && (letters && isLetter(stop) || digits && isDigit(stop))) stop++;
        }

        private boolean isLetter(int at) {
            return at >= 0 && at < length && tape[at] >= 'a' && tape[at] <= 'z';
        }

        private boolean isDigit(int at) {
            return at >= 0 && at < length && tape[at] >= '0' && tape[at] <= '9';
        }

        private boolean isSign(char sign) {
            return start < length && tape[start] == sign;
        }

        private boolean isWord(String word) {
            if (stop - start != word.length() || stop > length) return false;
            for (int i = 0; i < word.length(); i++) {
                if (tape[start + i] != word.charAt(i)) return false;
            }
            return true;
        }

        private int numberHere() {
            if (!isDigit(start)) return NONE;
            // One too large stays just above the limit: a row of digits may be longer than an int.
            int number = 0;
            for (int at = start; at < stop && isDigit(at); at++) {
                number = Math.min(number * 10 + tape[at] - '0', NUMBER_LIMIT + 1);
            }
            return number;
        }
    }

    /** Pairs of STATES wait in the order of their rows of CUES, so that the first end found has the first row. */
    private static final class Route {
        private static final int PAIRS = STATES * STATES;

        private final int[] queue = new int[PAIRS];
        private final int[] aheadOf = new int[PAIRS];
        private final int[] cueTo = new int[PAIRS];
        private final int[] cues = new int[PAIRS];
        private long met = 0;
        private int waiting = 0;
        private int length = NONE;

        void seek(Script one, Script other, boolean forStop) {
            met = 0;
            waiting = 0;
            length = NONE;
            join(0, NONE, NONE);
            for (int at = 0; at < waiting && at < PAIRS; at++) {
                int pair = queue[at];
                for (int cue = 0; cue < CUES; cue++) {
                    int said = one.wordAt(pair / STATES, cue);
                    boolean unlike = said != other.wordAt(pair % STATES, cue);
                    if (forStop ? said < 0 : unlike) {
                        trace(at, cue);
                        return;
                    }
                    if (unlike || said < 0) continue;
                    int next = one.nextAt(pair / STATES, cue) * STATES + other.nextAt(pair % STATES, cue);
                    join(next, at, cue);
                }
            }
        }

        private void join(int pair, int from, int cue) {
            if (pair < 0 || pair >= PAIRS || (met >> pair & 1) == 1 || waiting >= PAIRS) return;
            met |= 1L << pair;
            queue[waiting] = pair;
            aheadOf[waiting] = from;
            cueTo[waiting] = cue;
            waiting++;
        }

        private void trace(int last, int lastCue) {
            length = 1;
            for (int at = last; at > 0 && length < PAIRS; at = aheadOf[at]) length++;
            int place = length - 1;
            cues[place] = lastCue;
            for (int at = last; at > 0 && place > 0; at = aheadOf[at]) {
                place--;
                cues[place] = cueTo[at];
            }
        }

        int cueAt(int i) {
            if (i == NONE) return length;
            return i >= 0 && i < length ? cues[i] : NONE;
        }
    }

    /** A TALK has SCRIPTS of its own, so that it can mend them. */
    private static final class Duet {
        private static final int PLACES = STATES * STATES * 2 * CUES;

        private final Script first = new Script();
        private final Script second = new Script();
        private boolean alone = false;
        private int firstState = 0;
        private int secondState = 0;
        private boolean firstTurn = true;
        private int cue = 0;
        // Below base all is of earlier runs, so that it need not be cleared for each.
        private final int[] seen = new int[PLACES];
        private int base = 0;
        private int stopsBehind = NONE;
        private int ahead = NONE;
        private int round = NONE;
        private int ways = 0;
        private int mendWord = NONE;
        private int mendNext = NONE;

        void seat(Script one, Script other, boolean same) {
            first.copyFrom(one);
            second.copyFrom(other);
            alone = same;
        }

        private void start(int firstCue) {
            firstState = 0;
            secondState = 0;
            firstTurn = true;
            cue = firstCue;
        }

        private Script speaker() {
            return firstTurn || alone ? first : second;
        }

        private int speakerState() {
            return firstTurn ? firstState : secondState;
        }

        private int speak() {
            Script script = speaker();
            int word = script.wordAt(speakerState(), cue);
            if (word < 0) return NONE;
            int next = script.nextAt(speakerState(), cue);
            if (firstTurn) firstState = next;
            else secondState = next;
            firstTurn = !firstTurn;
            cue = word % CUES;
            return word;
        }

        private int place() {
            return ((firstState * STATES + secondState) * 2 + (firstTurn ? 0 : 1)) * CUES + cue;
        }

        void run(int firstCue) {
            start(firstCue);
            stopsBehind = NONE;
            ahead = NONE;
            round = NONE;
            base += PLACES + 1;
            for (int said = 0; said <= PLACES; said++) {
                int at = place();
                if (at < 0 || at >= PLACES) return;
                if (seen[at] >= base) {
                    ahead = seen[at] - base;
                    round = said - ahead;
                    return;
                }
                seen[at] = base + said;
                if (speak() < 0) {
                    stopsBehind = said;
                    return;
                }
            }
        }

        int wordBehind(int firstCue, int words) {
            start(firstCue);
            int word = NONE;
            for (int said = 0; said <= words && said < TALK_WORDS; said++) {
                word = speak();
                if (word < 0) return NONE;
            }
            return word;
        }

        void mend(int firstCue) {
            ways = 0;
            mendWord = NONE;
            mendNext = NONE;
            run(firstCue);
            if (stopsBehind < 0) return;
            Script broken = speaker();
            int state = speakerState();
            int hole = cue;
            for (int word = 0; word < WORDS; word++) {
                for (int next = 0; next < STATES; next++) {
                    broken.setRule(state, hole, word, next);
                    run(firstCue);
                    if (stopsBehind < 0) addMend(word, next);
                }
            }
        }

        private void addMend(int word, int next) {
            if (ways == 0) {
                mendWord = word;
                mendNext = next;
            }
            ways++;
        }
    }

    /** DEEDS fix a SCRIPT but for the STATES in which they are told, so all of those are gone through. */
    private static final class Least {
        private static final int MOST_STATES = 3;

        // ROW by ROW, as that is how STATES are numbered.
        private int number = 0;
        private final int[] rows = new int[DEED_ROOM];
        private final int[] cues = new int[DEED_ROOM];
        private final int[] words = new int[DEED_ROOM];
        private final int[] lastOfRow = new int[ROWS];

        private int limit = 0;
        private int askedRow = NONE;
        private int askedCue = NONE;
        private boolean oneIsEnough = false;
        private int ways = 0;
        private int bits = 0;
        private final int[] stateAt = new int[DEED_ROOM];
        private final int[] said = new int[MOST_STATES * CUES];
        private final int[] goes = new int[MOST_STATES * CUES];

        void lay(Deeds deeds) {
            number = 0;
            for (int row = 0; row < ROWS; row++) {
                lastOfRow[row] = NONE;
                for (int i = 0; i < deeds.number && i < DEED_ROOM; i++) {
                    if (deeds.rows[i] != row || number >= DEED_ROOM) continue;
                    rows[number] = row;
                    cues[number] = deeds.cues[i];
                    words[number] = deeds.words[i];
                    lastOfRow[row] = number;
                    number++;
                }
            }
        }

        int fewestStates() {
            for (int states = 1; states <= MOST_STATES; states++) {
                search(states, NONE, NONE, true);
                if (ways > 0) return states;
            }
            return NONE;
        }

        int countWays(int states) {
            search(states, NONE, NONE, false);
            return ways;
        }

        int wordsBehind(int states, int row, int cue) {
            search(states, row, cue, false);
            return bits;
        }

        private void search(int states, int row, int cue, boolean oneOnly) {
            limit = Math.min(states, MOST_STATES);
            askedRow = row;
            askedCue = cue;
            oneIsEnough = oneOnly;
            ways = 0;
            bits = 0;
            Arrays.fill(said, NONE);
            Arrays.fill(goes, NONE);
            explore(0, 0, 1);
        }

        private void explore(int deed, int state, int met) {
            if (oneIsEnough && ways > 0 || bits == ALL_WORDS) return;
            if (deed >= number || deed >= DEED_ROOM) {
                ways++;
                if (askedRow >= 0) bits |= wordsHere();
                return;
            }
            int rule = ruleAt(state, cues[deed]);
            if (rule < 0) return;
            boolean fresh = said[rule] < 0;
            if (!fresh && said[rule] != words[deed]) return;
            said[rule] = words[deed];
            stateAt[deed] = state;
            goOn(deed, rule, met);
            if (fresh) said[rule] = NONE;
        }

        private void goOn(int deed, int rule, int met) {
            if (rule < 0 || rule >= goes.length) return;
            if (endsRow(deed) || goes[rule] >= 0) {
                explore(deed + 1, endsRow(deed) ? 0 : goes[rule], met);
                return;
            }
            // No STATE beyond the next new one: with other numbers it would be the same way again.
            for (int next = 0; next <= met && next < limit; next++) {
                goes[rule] = next;
                explore(deed + 1, next, Math.max(met, next + 1));
            }
            goes[rule] = NONE;
        }

        private boolean endsRow(int deed) {
            return deed + 1 >= number || deed + 1 >= DEED_ROOM || rows[deed + 1] != rows[deed];
        }

        private static int ruleAt(int state, int cue) {
            return state < 0 || state >= MOST_STATES || cue < 0 || cue >= CUES ? NONE : state * CUES + cue;
        }

        private int wordsHere() {
            int state = stateBehindRow();
            if (state >= 0) return wordsOf(state);
            int could = 0;
            for (int any = 0; any < limit; any++) could |= wordsOf(any);
            return could;
        }

        private int stateBehindRow() {
            int last = askedRow >= 0 && askedRow < ROWS ? lastOfRow[askedRow] : NONE;
            if (last < 0 || last >= DEED_ROOM) return 0;
            int rule = ruleAt(stateAt[last], cues[last]);
            return rule < 0 ? NONE : goes[rule];
        }

        private int wordsOf(int state) {
            int rule = ruleAt(state, askedCue);
            return rule < 0 || said[rule] < 0 ? ALL_WORDS : 1 << said[rule];
        }
    }

    /** PEOPLE wait in the order of their rows, so that the first of those who live longest has the first row. */
    private static final class Chain {
        private People people = new People();
        private final boolean[] mayTeach = new boolean[PEOPLE_ROOM * PEOPLE_ROOM];
        private final int[] queue = new int[PEOPLE_ROOM];
        private final int[] aheadOf = new int[PEOPLE_ROOM];
        private final int[] row = new int[PEOPLE_ROOM];
        private int met = 0;
        private int waiting = 0;
        private int latest = NONE;
        private int length = 0;

        void lay(Town town, int part) {
            people = town.people;
            for (int at = 0; at < mayTeach.length; at++) {
                int master = at / PEOPLE_ROOM;
                int pupil = at % PEOPLE_ROOM;
                mayTeach[at] = master != pupil && people.yearsTogether(master, pupil) > 0
                    && town.isTaught(part, master, pupil, people.firstYearTogether(master, pupil));
            }
        }

        void seek(int first, int without) {
            met = 0;
            waiting = 0;
            latest = NONE;
            join(first, NONE);
            int best = NONE;
            for (int at = 0; at < waiting && at < PEOPLE_ROOM; at++) {
                int lasts = people.dead[queue[at]] - 1;
                if (lasts > latest) {
                    latest = lasts;
                    best = at;
                }
                for (int pupil = 0; pupil < PEOPLE_ROOM; pupil++) {
                    if (pupil != without && mayTeach[queue[at] * PEOPLE_ROOM + pupil]) join(pupil, at);
                }
            }
            trace(best);
        }

        private void join(int person, int from) {
            if (!people.has(person) || (met >> person & 1) == 1 || waiting >= PEOPLE_ROOM) return;
            met |= 1 << person;
            queue[waiting] = person;
            aheadOf[waiting] = from;
            waiting++;
        }

        private void trace(int last) {
            length = 0;
            for (int at = last; at >= 0 && length < PEOPLE_ROOM; at = aheadOf[at]) length++;
            int place = length;
            for (int at = last; at >= 0 && place > 0; at = aheadOf[at]) {
                place--;
                row[place] = queue[at];
            }
        }

        int personAt(int i) {
            return i >= 0 && i < length ? row[i] : NONE;
        }

        int needless(int first) {
            seek(first, NONE);
            int longest = latest;
            int bits = 0;
            for (int person = 0; person < people.number; person++) {
                if (person == first) continue;
                seek(first, person);
                if (latest == longest) bits |= 1 << person;
            }
            return bits;
        }
    }

    /** Rows are counted by sets of PARTS, as there are far more rows than sets. */
    private static final class Cast {
        private static final int SETS = 1 << PART_ROOM;
        private static final int NUMBERS = PART_ROOM + 1;

        private int parts = 0;
        private int people = 0;
        private final int[] allowed = new int[PEOPLE_ROOM];
        private final int[] clashes = new int[PART_ROOM];
        private final boolean[] fits = new boolean[SETS];
        private final int[] ways = new int[SETS * NUMBERS];
        private final int[] playing = new int[PEOPLE_ROOM];
        private final int[] row = new int[PART_ROOM];
        private int fewest = NONE;
        private int rows = 0;

        void lay(Town town) {
            parts = Math.min(town.parts, PART_ROOM);
            people = Math.min(town.people.number, PEOPLE_ROOM);
            for (int part = 0; part < parts; part++) {
                clashes[part] = 0;
                for (int other = 0; other < parts; other++) {
                    boolean common = town.from[part] < town.till[other] && town.from[other] < town.till[part];
                    if (common && part != other) clashes[part] |= 1 << other;
                }
            }
            for (int person = 0; person < people; person++) {
                allowed[person] = 0;
                for (int part = 0; part < parts; part++) {
                    if (town.mayBegin(part, person)) allowed[person] |= 1 << part;
                }
            }
        }

        void solve() {
            markFits();
            countWays();
            fewest = NONE;
            rows = 0;
            int all = (1 << parts) - 1;
            for (int number = 0; number <= PART_ROOM && fewest < 0; number++) {
                rows = ways[all * NUMBERS + number];
                if (rows > 0) fewest = number;
            }
            if (fewest < 0) return;
            Arrays.fill(playing, 0);
            findRow(0, 0);
        }

        private void markFits() {
            for (int set = 0; set < 1 << parts; set++) {
                fits[set] = true;
                for (int part = 0; part < parts; part++) {
                    if ((set >> part & 1) == 1 && (set & clashes[part]) != 0) fits[set] = false;
                }
            }
        }

        private void countWays() {
            Arrays.fill(ways, 0);
            ways[0] = 1;
            for (int person = 0; person < people; person++) {
                // From the large sets down, as the smaller ones must not have this PERSON yet.
                for (int set = (1 << parts) - 1; set > 0; set--) {
                    for (int taken = set; taken > 0; taken = taken - 1 & set) {
                        if (fits[taken] && (taken & ~allowed[person]) == 0) addWays(set, set ^ taken);
                    }
                }
            }
        }

        private void addWays(int set, int without) {
            int to = set * NUMBERS;
            int from = without * NUMBERS;
            if (to < 0 || to + PART_ROOM >= ways.length || from < 0 || from + PART_ROOM >= ways.length) return;
            for (int number = 0; number < PART_ROOM; number++) ways[to + number + 1] += ways[from + number];
        }

        private boolean findRow(int part, int players) {
            if (part >= parts || part >= PART_ROOM) return true;
            for (int person = 0; person < people; person++) {
                if (findRowWith(person, part, players)) return true;
            }
            return false;
        }

        private boolean findRowWith(int person, int part, int players) {
            int had = playing[person];
            int more = had == 0 ? players + 1 : players;
            boolean able = (allowed[person] >> part & 1) == 1 && (had & clashes[part]) == 0;
            if (!able || more > fewest) return false;
            row[part] = person;
            playing[person] = had | 1 << part;
            if (findRow(part + 1, more)) return true;
            playing[person] = had;
            return false;
        }

        int playerOf(int part) {
            return part >= 0 && part < parts ? row[part] : NONE;
        }
    }
}
