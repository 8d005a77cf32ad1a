public final class MoustacheState {
    public static final int NONE = -1;

    private static final int NO_TRAY = 1;
    private static final int NO_SUCH = 2;
    private static final int MISSING = 3;
    private static final int NO_PLACE = 4;
    private static final int BAD_NUMBER = 5;
    private static final int BELOW_ZERO = 6;
    private static final int TOO_MANY = 7;
    private static final int NOTHING = 8;
    private static final int CANNOT_BE = 9;
    private static final int FAULTY = 10;
    private static final int UNLIKE = 11;

    private static final int NO_TOKEN = 1;
    private static final int MISPLACED = 2;
    private static final int WRONG_NAME = 3;
    private static final int WRONG_NUMBER = 4;
    private static final int TOLD_TWICE = 5;
    private static final int ONE_TOO_MANY = 6;
    private static final int TOO_DEEP = 7;

    private static final int STANDS_DOWN = 0;
    private static final int STANDS_FLAT = 1;
    private static final int STANDS_UP = 2;
    private static final int ANY_WAY = 3;

    private static final int MOST_HAIRS = 8;
    private static final int MOST_PARTIES = 5;
    private static final int MOST_RULERS = 6;
    private static final int MOST_LOOKS = 6;
    private static final int MOST_BARBERS = 6;
    private static final int MOST_PAIRS = 10;
    private static final int MOST_NAMES = MOST_HAIRS + MOST_PARTIES + MOST_RULERS + MOST_LOOKS + MOST_BARBERS;
    private static final int MOST_TRAYS = 4;
    private static final int MOST_IN_TRAY = 60;
    private static final int MOST_TWOS = 20;
    private static final int MOST_MARKS = 3;
    private static final int MOST_BYTES = 900;
    private static final int MOST_REIGNS_BYTES = 300;
    private static final int MOST_STEPS_TOLD = 30;
    private static final int MOST_STEPS_DONE = 300;
    private static final int MOST_DEPTH = 3;
    private static final int MOST_LETTERS = 8;
    private static final int MOST_DIGITS = 4;
    private static final int MOST_TURNS = 3;
    private static final int LONGEST = 99;
    private static final int LAST_DAY = 9999;
    private static final int LAST_SEED = 9999;
    private static final int FAR_AHEAD = 200;

    /** Far above the turns of 300 STEPS with the ends between them. */
    private static final int MOST_TICKS = 10000;

    // The words that are no NAMES, in the order of their token numbers below.
    private static final String WORDS =
            "odds greys hair length grows up flat down either party seats wants ruler lip look barber pair day peace war wax trim vote hand any when shows loop end stop ";
    private static final int ODDS = 0;
    private static final int GREYS = 1;
    private static final int HAIR = 2;
    private static final int LENGTH = 3;
    private static final int GROWS = 4;
    private static final int UP = 5;
    private static final int FLAT = 6;
    private static final int DOWN = 7;
    private static final int EITHER = 8;
    private static final int PARTY = 9;
    private static final int SEATS = 10;
    private static final int WANTS = 11;
    private static final int RULER = 12;
    private static final int LIP = 13;
    private static final int LOOK = 14;
    private static final int BARBER = 15;
    private static final int PAIR = 16;
    private static final int DAY = 17;
    private static final int PEACE = 18;
    private static final int WAR = 19;
    private static final int WAX = 20;
    private static final int TRIM = 21;
    private static final int VOTE = 22;
    private static final int HAND = 23;
    private static final int ANY = 24;
    private static final int WHEN = 25;
    private static final int SHOWS = 26;
    private static final int LOOP = 27;
    private static final int END = 28;
    private static final int STOP = 29;
    private static final int WORD_COUNT = 30;
    private static final int NAME = 30;
    private static final int LONG_WORD = 31;
    private static final int NUMBER = 32;
    private static final int SEMICOLON = 33;
    private static final int LESS = 34;
    private static final int MORE = 35;
    private static final int EQUAL = 36;
    private static final int TEXT_END = 37;
    private static final int BAD = 38;

    private final Tray[] trays = new Tray[MOST_TRAYS];
    private final Text text = new Text();
    private final StateReader stateReader = new StateReader();
    private final ReignsReader reignsReader = new ReignsReader();
    private final Realm[] markedRealms = new Realm[MOST_MARKS];
    private final Reigns[] markedReigns = new Reigns[MOST_MARKS];
    private final Game play = new Game();
    // One number for each set of HAIRS or of PAIRS.
    private final int[] ofSet = new int[1 << MOST_PAIRS];
    private Realm realm = new Realm();
    private Realm spareRealm = new Realm();
    private Reigns program = new Reigns();
    private Reigns spareProgram = new Reigns();
    private final Life life = new Life();
    private final Life trial = new Life();
    private boolean hasLived;
    private int marks;
    private int status;
    private long fractionTop;
    private long fractionBottom = 1;

    public MoustacheState() {
        for (int i = 0; i < MOST_TRAYS; i++) {
            trays[i] = new Tray();
        }
        for (int i = 0; i < MOST_MARKS; i++) {
            markedRealms[i] = new Realm();
            markedReigns[i] = new Reigns();
        }
    }

    public int status() {
        return status;
    }

    public long top() {
        return fractionTop;
    }

    public long bottom() {
        return fractionBottom;
    }

    // ---- TRAYS

    public boolean tray(int tray, int sort, int many) {
        if (!isTray(tray) || sort < 0 || sort > 3) {
            return deny(NO_TRAY);
        }
        if (many > MOST_IN_TRAY) {
            return deny(BAD_NUMBER);
        }
        if (many < 0) {
            return deny(BELOW_ZERO);
        }
        trays[tray].lay(sort, many);
        return grant();
    }

    public boolean write(int tray, int place, long v) {
        int wrong = wrongPlace(tray, place);
        if (wrong != 0) {
            return deny(wrong);
        }
        trays[tray].put(place, v);
        return grant();
    }

    public long read(int tray, int place) {
        int wrong = wrongPlace(tray, place);
        if (wrong != 0) {
            return refuse(wrong);
        }
        status = 0;
        return trays[tray].numbers[place];
    }

    public boolean pour(int tray, int i, int to, int j, int many) {
        if (!isTray(tray) || !isTray(to)) {
            return deny(NO_TRAY);
        }
        Tray from = trays[tray];
        Tray into = trays[to];
        if (from.isMissing() || into.isMissing()) {
            return deny(MISSING);
        }
        if (from.sort != into.sort) {
            return deny(UNLIKE);
        }
        if (many < 0) {
            return deny(BELOW_ZERO);
        }
        if (!from.hasRun(i, many) || !into.hasRun(j, many)) {
            return deny(NO_PLACE);
        }
        System.arraycopy(from.numbers, i, into.numbers, j, many);
        return grant();
    }

    // ---- texts

    public int feed(int a, int b, int c, int d, int e) {
        if (!text.hasRoom(20)) {
            return NONE;
        }
        text.append(a);
        text.append(b);
        text.append(c);
        text.append(d);
        text.append(e);
        return text.size;
    }

    public int state(int n) {
        if (n < 0 || n > text.size) {
            return refuse(BAD_NUMBER);
        }
        text.begin(n);
        if (!stateReader.readState(text, spareRealm)) {
            return refuse(FAULTY);
        }
        Realm old = realm;
        realm = spareRealm;
        spareRealm = old;
        program.clear();
        return give(realm.hairs.many);
    }

    public int reigns(int n) {
        if (n < 0 || n > text.size || n > MOST_REIGNS_BYTES) {
            return refuse(BAD_NUMBER);
        }
        text.begin(n);
        if (!reignsReader.readReigns(text, spareProgram, realm.names)) {
            return refuse(FAULTY);
        }
        Reigns old = program;
        program = spareProgram;
        spareProgram = old;
        return give(program.steps);
    }

    public int fault(int what) {
        if (what == 0) {
            return text.faultKind;
        }
        return what == 1 ? text.faultPlace : NONE;
    }

    public int many(int what) {
        if (what < 0 || what > 15) {
            return refuse(BAD_NUMBER);
        }
        return give(what < 8 ? realm.howMany(what) : realm.howItStands(what));
    }

    public int hair(int hair, int what) {
        if (!isHair(hair)) {
            return refuse(NO_SUCH);
        }
        Hairs hairs = realm.hairs;
        switch (what) {
            case 0:
                return give(hairs.lengths[hair]);
            case 1:
                return give(hairs.grows[hair]);
            case 2:
                return give(hairs.stands[hair]);
            case 3:
                return give(hairs.waxDays[hair]);
            default:
                return refuse(BAD_NUMBER);
        }
    }

    public int party(int party, int what) {
        if (!isParty(party)) {
            return refuse(NO_SUCH);
        }
        if (what != 0 && what != 1) {
            return refuse(BAD_NUMBER);
        }
        return give(what == 0 ? realm.seats[party] : realm.wants[party]);
    }

    public int ruler() {
        return realm.ruling < 0 ? refuse(NOTHING) : give(realm.ruling);
    }

    public int lip(int ruler) {
        if (ruler < 0 || ruler >= realm.rulers) {
            return refuse(NO_SUCH);
        }
        return give(realm.lips[ruler]);
    }

    public int look(int look, int hair) {
        if (!isLook(look) || !isHair(hair)) {
            return refuse(NO_SUCH);
        }
        return give(realm.told(look, hair));
    }

    public int pair(int pair, int what) {
        if (pair < 0 || pair >= realm.pairs) {
            return refuse(NO_SUCH);
        }
        if (what != 0 && what != 1) {
            return refuse(BAD_NUMBER);
        }
        return give(what == 0 ? realm.pairFirsts[pair] : realm.pairSeconds[pair]);
    }

    public int copyLengths(int tray) {
        if (!isTray(tray)) {
            return refuse(NO_TRAY);
        }
        Tray into = trays[tray];
        if (into.isMissing()) {
            return refuse(MISSING);
        }
        Hairs hairs = realm.hairs;
        if (!into.hasRun(0, hairs.many)) {
            return refuse(NO_PLACE);
        }
        for (int h = 0; h < hairs.many; h++) {
            into.put(h, hairs.lengths[h]);
        }
        return give(hairs.many);
    }

    // ---- what is done

    public int day(int days) {
        if (days < 1 || days > 99) {
            return refuse(BAD_NUMBER);
        }
        if (!realm.letDaysPass(days)) {
            return refuse(TOO_MANY);
        }
        return give(realm.hairs.sumOfLengths());
    }

    public boolean peace(boolean is) {
        return realm.setPeace(is) ? grant() : deny(CANNOT_BE);
    }

    public int wax(int hair, int days) {
        int wrong = wrongHairOrNumber(hair, days, 0, 99);
        if (wrong != 0) {
            return refuse(wrong);
        }
        int ahead = realm.hairs.waxDays[hair];
        realm.hairs.waxDays[hair] = days;
        return give(ahead);
    }

    public int trim(int hair, int length) {
        int wrong = wrongTrim(hair, length);
        return wrong != 0 ? refuse(wrong) : give(realm.hairs.cut(hair, length));
    }

    public int vote(int hair, int length) {
        int wrong = wrongTrim(hair, length);
        if (wrong != 0) {
            return refuse(wrong);
        }
        if (realm.seatsFor(hair, length) <= 0) {
            return give(0);
        }
        realm.hairs.cut(hair, length);
        return give(1);
    }

    public int hand() {
        return realm.handOn() ? give(realm.ruling) : refuse(CANNOT_BE);
    }

    public boolean comb(int hair, int to) {
        int wrong = wrongHairOrNumber(hair, to, STANDS_DOWN, STANDS_UP);
        if (wrong != 0) {
            return deny(wrong);
        }
        if (realm.hairs.stands[hair] == to) {
            return deny(CANNOT_BE);
        }
        realm.hairs.stands[hair] = to;
        return grant();
    }

    public boolean elect(int party, int seats) {
        if (!isParty(party)) {
            return deny(NO_SUCH);
        }
        if (seats < 1 || seats > 99) {
            return deny(BAD_NUMBER);
        }
        realm.seats[party] = seats;
        return grant();
    }

    public boolean rule(int what, int much) {
        if (what == 6 && much >= 0 && much <= 16) {
            realm.odds = much;
            return grant();
        }
        if (what == 7 && much >= 1 && much <= 99) {
            realm.greys = much;
            return grant();
        }
        return deny(BAD_NUMBER);
    }

    public boolean dream(int look, int hair, int to) {
        if (!isLook(look) || !isHair(hair)) {
            return deny(NO_SUCH);
        }
        if (to < STANDS_DOWN || to > ANY_WAY) {
            return deny(BAD_NUMBER);
        }
        if (realm.told(look, hair) == to) {
            return deny(CANNOT_BE);
        }
        realm.tell(look, hair, to);
        return grant();
    }

    public int graft(int length, int grows) {
        if (length < 0 || length > LONGEST || grows < 0 || grows > 9) {
            return refuse(BAD_NUMBER);
        }
        if (realm.hairs.many >= MOST_HAIRS) {
            return refuse(TOO_MANY);
        }
        realm.hairs.add(length, grows, STANDS_FLAT);
        return give(realm.hairs.many - 1);
    }

    // ---- LOOKS

    public int shown(int look) {
        if (!isLook(look)) {
            return refuse(NO_SUCH);
        }
        return give(realm.isShownIn(look, 0) ? 1 : 0);
    }

    public int reads() {
        for (int look = 0; look < realm.looks; look++) {
            if (realm.isShownIn(look, 0)) {
                return give(look);
            }
        }
        return refuse(NOTHING);
    }

    public int wrong(int look) {
        if (!isLook(look)) {
            return refuse(NO_SUCH);
        }
        int count = 0;
        for (int h = 0; h < realm.hairs.many; h++) {
            int told = realm.told(look, h);
            if (told != ANY_WAY && told != realm.hairs.stands[h]) {
                count++;
            }
        }
        return give(count);
    }

    public int shownIn(int look) {
        if (!isLook(look)) {
            return refuse(NO_SUCH);
        }
        for (int days = 0; days <= FAR_AHEAD; days++) {
            if (realm.isShownIn(look, days)) {
                return give(days);
            }
        }
        return refuse(NOTHING);
    }

    public int reach(int look) {
        return isLook(look) ? give(realm.daysToReach(look)) : refuse(NO_SUCH);
    }

    public int within(int n) {
        return n < 0 || n > 4 ? refuse(BAD_NUMBER) : give(realm.hairs.rowsWithin(n));
    }

    public int agree(int look, int other) {
        if (!isLook(look) || !isLook(other)) {
            return refuse(NO_SUCH);
        }
        for (int h = 0; h < realm.hairs.many; h++) {
            int one = realm.told(look, h);
            int two = realm.told(other, h);
            if (one != two && one != ANY_WAY && two != ANY_WAY) {
                return give(0);
            }
        }
        return give(1);
    }

    // ---- DAYS ahead

    public int lengthIn(int hair, int days) {
        int wrong = wrongHairOrNumber(hair, days, 0, FAR_AHEAD);
        return wrong != 0 ? refuse(wrong) : give(realm.lengthAfter(hair, days));
    }

    public int standsIn(int hair, int days) {
        int wrong = wrongHairOrNumber(hair, days, 0, FAR_AHEAD);
        return wrong != 0 ? refuse(wrong) : give(realm.hairs.standsAfter(hair, days, realm.peace));
    }

    public int longIn(int hair, int length) {
        int wrong = wrongHairOrNumber(hair, length, 0, LONGEST);
        if (wrong != 0) {
            return refuse(wrong);
        }
        for (int days = 0; days <= FAR_AHEAD; days++) {
            if (realm.lengthAfter(hair, days) >= length) {
                return give(days);
            }
        }
        return refuse(NOTHING);
    }

    public int evenIn() {
        for (int days = 0; days <= FAR_AHEAD; days++) {
            if (realm.hairs.standAlikeAfter(days, realm.peace)) {
                return give(days);
            }
        }
        return refuse(NOTHING);
    }

    public int greyIn(int days) {
        if (days < 0 || days > 999) {
            return refuse(BAD_NUMBER);
        }
        return give(Integer.bitCount(realm.greySet(days)));
    }

    // ---- trims, halves

    public int poll(int hair, int length) {
        int wrong = wrongTrim(hair, length);
        return wrong != 0 ? refuse(wrong) : give(realm.seatsFor(hair, length));
    }

    public int passes(int hair) {
        if (!isHair(hair)) {
            return refuse(NO_SUCH);
        }
        for (int length = 0; length < realm.hairs.lengths[hair]; length++) {
            if (realm.seatsFor(hair, length) > 0) {
                return give(length);
            }
        }
        return refuse(NOTHING);
    }

    public int shortest(int length) {
        if (length < 0 || length > 999) {
            return refuse(BAD_NUMBER);
        }
        return give(Integer.bitCount(fewestTrims(length)));
    }

    public int shortestSet(int length) {
        return length < 0 || length > 999 ? refuse(BAD_NUMBER) : give(fewestTrims(length));
    }

    public int divided() {
        return give(evenHalf());
    }

    public int dividedBy() {
        int half = evenHalf();
        return give(Math.abs(realm.hairs.sumOfLengths() - 2 * ofSet[half]));
    }

    public int seen(int tray, int n) {
        if (!isTray(tray)) {
            return refuse(NO_TRAY);
        }
        Tray from = trays[tray];
        if (from.isMissing()) {
            return refuse(MISSING);
        }
        if (n > from.size / 2) {
            return refuse(NO_PLACE);
        }
        if (n < 0 || n > MOST_TWOS || !from.holdsSights(n)) {
            return refuse(BAD_NUMBER);
        }
        int set = 0;
        for (int h = 0; h < realm.hairs.many; h++) {
            if (growsAsSeen(h, from, n)) {
                set |= 1 << h;
            }
        }
        return give(set);
    }

    // ---- BARBERS

    public int paired() {
        int set = fewestPairs();
        return set < 0 ? refuse(NOTHING) : give(Integer.bitCount(set));
    }

    public int pairedSet() {
        int set = fewestPairs();
        return set < 0 ? refuse(NOTHING) : give(set);
    }

    public int watches(int barber) {
        if (barber < 0 || barber >= realm.barbers) {
            return refuse(NO_SUCH);
        }
        int set = 0;
        for (int p = 0; p < realm.pairs; p++) {
            if (realm.pairFirsts[p] == barber) {
                set |= 1 << realm.pairSeconds[p];
            } else if (realm.pairSeconds[p] == barber) {
                set |= 1 << realm.pairFirsts[p];
            }
        }
        return give(set);
    }

    // ---- games, odds

    public int game(int turns) {
        if (turns < 0 || turns > MOST_TURNS) {
            return refuse(BAD_NUMBER);
        }
        play.setUp(realm, turns);
        return give(play.worth());
    }

    public int moveOf(int turns) {
        if (turns < 1 || turns > MOST_TURNS) {
            return refuse(BAD_NUMBER);
        }
        play.setUp(realm, turns);
        int hair = play.firstMove();
        return hair < 0 ? refuse(NOTHING) : give(hair);
    }

    public boolean legible(int look, int k) {
        if (!isLook(look)) {
            return deny(NO_SUCH);
        }
        if (k < 0 || k > 8) {
            return deny(BAD_NUMBER);
        }
        int all = realm.toldHairs(look);
        long ways = 1;
        long sum = 0;
        for (int ruffled = 0; ruffled <= k && ruffled <= all; ruffled++) {
            sum += ways * power(realm.odds, ruffled) * power(16 - realm.odds, all - ruffled);
            ways = ways * (all - ruffled) / (ruffled + 1);
        }
        return tellFraction(sum, power(16, all));
    }

    public boolean share(int party) {
        if (!isParty(party)) {
            return deny(NO_SUCH);
        }
        return tellFraction(realm.seats[party], realm.allSeats());
    }

    // ---- REIGNS

    public int live(int seed) {
        if (seed < 0 || seed > LAST_SEED) {
            return refuse(BAD_NUMBER);
        }
        if (!program.isThere) {
            return refuse(NOTHING);
        }
        life.run(program, realm, seed);
        hasLived = true;
        return give(life.steps);
    }

    public int lived(int what) {
        if (what < 0 || what > 4) {
            return refuse(BAD_NUMBER);
        }
        return hasLived ? give(life.account(what)) : refuse(NOTHING);
    }

    public boolean mean(int seed, int many) {
        if (seed < 0 || many < 1 || many > 20 || seed > LAST_SEED - (many - 1)) {
            return deny(BAD_NUMBER);
        }
        if (!program.isThere) {
            return deny(NOTHING);
        }
        long sum = 0;
        for (int i = 0; i < many; i++) {
            spareRealm.copyFrom(realm);
            trial.run(program, spareRealm, seed + i);
            sum += spareRealm.hairs.sumOfLengths();
        }
        return tellFraction(sum, many);
    }

    // ---- MARKS

    public int mark() {
        if (marks >= MOST_MARKS) {
            return refuse(TOO_MANY);
        }
        markedRealms[marks].copyFrom(realm);
        markedReigns[marks].copyFrom(program);
        marks++;
        return give(marks);
    }

    public int back() {
        if (marks <= 0) {
            return refuse(NOTHING);
        }
        marks--;
        realm.copyFrom(markedRealms[marks]);
        program.copyFrom(markedReigns[marks]);
        return give(marks);
    }

    // ---- how a call answers

    private int give(int answer) {
        status = 0;
        return answer;
    }

    private int refuse(int why) {
        status = why;
        return NONE;
    }

    private boolean grant() {
        status = 0;
        return true;
    }

    private boolean deny(int why) {
        status = why;
        return false;
    }

    /** The bottom must be above 0. */
    private boolean tellFraction(long top, long bottom) {
        long divisor = commonDivisor(top, bottom);
        if (divisor > 0) {
            fractionTop = top / divisor;
            fractionBottom = bottom / divisor;
        }
        return grant();
    }

    private static long commonDivisor(long one, long other) {
        long a = one;
        long b = other;
        // Euclid's rests halve at least every other round: 200 are above what a long can need.
        for (int round = 0; round < 200 && b != 0; round++) {
            long rest = a % b;
            a = b;
            b = rest;
        }
        return a;
    }

    private static long power(int base, int exponent) {
        long product = 1;
        for (int i = 0; i < exponent; i++) {
            product *= base;
        }
        return product;
    }

    // ---- what there is

    private static boolean isTray(int tray) {
        return tray >= 0 && tray < MOST_TRAYS;
    }

    private boolean isHair(int hair) {
        return hair >= 0 && hair < realm.hairs.many;
    }

    private boolean isParty(int party) {
        return party >= 0 && party < realm.parties;
    }

    private boolean isLook(int look) {
        return look >= 0 && look < realm.looks;
    }

    private int wrongPlace(int tray, int place) {
        if (!isTray(tray)) {
            return NO_TRAY;
        }
        if (trays[tray].isMissing()) {
            return MISSING;
        }
        return trays[tray].hasPlace(place) ? 0 : NO_PLACE;
    }

    private int wrongHairOrNumber(int hair, int number, int least, int most) {
        if (!isHair(hair)) {
            return NO_SUCH;
        }
        return number < least || number > most ? BAD_NUMBER : 0;
    }

    private int wrongTrim(int hair, int length) {
        int wrong = wrongHairOrNumber(hair, length, 0, LONGEST);
        if (wrong != 0) {
            return wrong;
        }
        return realm.hairs.lengths[hair] <= length ? CANNOT_BE : 0;
    }

    // ---- sets

    /** Puts the LENGTHS together of each set of HAIRS in its place: how many sets there are. */
    private int sumSetsOfHairs() {
        Hairs hairs = realm.hairs;
        int sets = 1 << hairs.many;
        ofSet[0] = 0;
        for (int h = 0; h < hairs.many; h++) {
            int bit = 1 << h;
            for (int set = 0; set < bit; set++) {
                ofSet[bit + set] = ofSet[set] + hairs.lengths[h];
            }
        }
        return sets;
    }

    private int fewestTrims(int length) {
        int sets = sumSetsOfHairs();
        int mustGo = realm.hairs.sumOfLengths() - length;
        int best = sets - 1;
        for (int set = sets - 1; set >= 0; set--) {
            // Downwards, so that of sets as small the least is kept.
            if (ofSet[set] >= mustGo && Integer.bitCount(set) <= Integer.bitCount(best)) {
                best = set;
            }
        }
        return best;
    }

    private int evenHalf() {
        int sets = sumSetsOfHairs();
        int all = realm.hairs.sumOfLengths();
        int best = 0;
        for (int set = 1; set < sets; set++) {
            if (Math.abs(all - 2 * ofSet[set]) < Math.abs(all - 2 * ofSet[best])) {
                best = set;
            }
        }
        return best;
    }

    private boolean growsAsSeen(int hair, Tray from, int twos) {
        for (int i = 0; i < twos; i++) {
            int days = (int) from.numbers[2 * i];
            if (realm.lengthAfter(hair, days) != from.numbers[2 * i + 1]) {
                return false;
            }
        }
        return true;
    }

    /** NONE if a BARBER is in no PAIR. */
    private int fewestPairs() {
        int everybody = (1 << realm.barbers) - 1;
        int sets = 1 << realm.pairs;
        ofSet[0] = 0;
        for (int p = 0; p < realm.pairs; p++) {
            int bit = 1 << p;
            int two = 1 << realm.pairFirsts[p] | 1 << realm.pairSeconds[p];
            for (int set = 0; set < bit; set++) {
                ofSet[bit + set] = ofSet[set] | two;
            }
        }
        int best = NONE;
        for (int set = 0; set < sets; set++) {
            if (ofSet[set] == everybody && (best < 0 || Integer.bitCount(set) < Integer.bitCount(best))) {
                best = set;
            }
        }
        return best;
    }

    /** A row of numbers of one sort; its room is made once. */
    private static final class Tray {
        final long[] numbers = new long[MOST_IN_TRAY];
        int sort;
        int size = NONE;

        boolean isMissing() {
            return size < 0;
        }

        boolean hasPlace(int place) {
            return place >= 0 && place < size;
        }

        boolean hasRun(int from, int howMany) {
            return from >= 0 && from <= size - howMany;
        }

        void lay(int newSort, int newSize) {
            sort = newSort;
            size = newSize;
            for (int i = 0; i < MOST_IN_TRAY; i++) {
                numbers[i] = 0;
            }
        }

        void put(int place, long v) {
            if (hasPlace(place)) {
                numbers[place] = cutToSort(v);
            }
        }

        private long cutToSort(long v) {
            switch (sort) {
                case 0:
                    return (byte) v;
                case 1:
                    return (short) v;
                case 2:
                    return (int) v;
                default:
                    return v;
            }
        }

        boolean holdsSights(int twos) {
            for (int i = 0; i < twos && 2 * i + 1 < size; i++) {
                long days = numbers[2 * i];
                long length = numbers[2 * i + 1];
                if (days < 0 || days > FAR_AHEAD || length < 0 || length > LONGEST) {
                    return false;
                }
            }
            return true;
        }
    }

    /** The tape, its first bytes split into TOKENS, and the FAULT that was found. */
    private static final class Text {
        final byte[] bytes = new byte[MOST_BYTES];
        // A word of up to 8 letters is one number, 5 bits a letter.
        final long[] words = new long[WORD_COUNT];
        // Each TOKEN's kind, place, and NUMBER or word; the end of the text is the last one.
        final int[] kinds = new int[MOST_BYTES + 1];
        final int[] places = new int[MOST_BYTES + 1];
        final long[] values = new long[MOST_BYTES + 1];
        int size;
        int tokens;
        int next;
        int token = TEXT_END;
        int place;
        long value;
        int faultKind = NONE;
        int faultPlace = NONE;

        Text() {
            int word = 0;
            long packed = 0;
            for (int i = 0; i < WORDS.length() && word < WORD_COUNT; i++) {
                char c = WORDS.charAt(i);
                if (c == ' ') {
                    words[word] = packed;
                    word++;
                    packed = 0;
                } else {
                    packed = withLetter(packed, c);
                }
            }
        }

        private static long withLetter(long packed, int letter) {
            return packed * 32 + (letter - 'a' + 1);
        }

        boolean hasRoom(int more) {
            return size <= MOST_BYTES - more;
        }

        void append(int four) {
            for (int shift = 24; shift >= 0 && size < MOST_BYTES; shift -= 8) {
                bytes[size] = (byte) (four >> shift);
                size++;
            }
        }

        /** Splits the first bytes into TOKENS; the tape is empty then. */
        void begin(int howMany) {
            int end = Math.min(howMany, size);
            size = 0;
            tokens = 0;
            next = 0;
            faultKind = 0;
            faultPlace = NONE;
            int at = 0;
            // Each round goes on by a byte at least.
            for (int round = 0; round < MOST_BYTES && at < end; round++) {
                int c = bytes[at];
                if (c == 10 || c == 32) {
                    at++;
                } else if (isLetter(c)) {
                    at = splitWord(at, end);
                } else if (isDigit(c)) {
                    at = splitNumber(at, end);
                } else {
                    addToken(signOf(c), at, 0);
                    at++;
                }
            }
            addToken(TEXT_END, end, 0);
        }

        private void addToken(int kind, int where, long what) {
            if (tokens <= MOST_BYTES) {
                kinds[tokens] = kind;
                places[tokens] = where;
                values[tokens] = what;
                tokens++;
            }
        }

        private int splitWord(int from, int end) {
            long packed = 0;
            int at = from;
            while (at < end && isLetter(bytes[at])) {
                if (at - from < MOST_LETTERS) {
                    packed = withLetter(packed, bytes[at]);
                }
                at++;
            }
            addToken(at - from > MOST_LETTERS ? LONG_WORD : wordOf(packed), from, packed);
            return at;
        }

        private int wordOf(long packed) {
            for (int word = 0; word < WORD_COUNT; word++) {
                if (words[word] == packed) {
                    return word;
                }
            }
            return NAME;
        }

        private int splitNumber(int from, int end) {
            long number = 0;
            int at = from;
            while (at < end && isDigit(bytes[at])) {
                if (at - from < MOST_DIGITS) {
                    number = number * 10 + (bytes[at] - '0');
                }
                at++;
            }
            addToken(at - from > MOST_DIGITS ? BAD : NUMBER, from, number);
            return at;
        }

        private static boolean isLetter(int c) {
            return c >= 'a' && c <= 'z';
        }

        private static boolean isDigit(int c) {
            return c >= '0' && c <= '9';
        }

        private static int signOf(int c) {
            switch (c) {
                case ';':
                    return SEMICOLON;
                case '<':
                    return LESS;
                case '>':
                    return MORE;
                case '=':
                    return EQUAL;
                default:
                    return BAD;
            }
        }

        void step() {
            if (next < tokens) {
                token = kinds[next];
                place = places[next];
                value = values[next];
                next++;
            }
        }

        int number() {
            return (int) value;
        }

        /** A FAULT at the TOKEN at hand; one that is no TOKEN is that before all else. */
        boolean refuseToken(int kind) {
            faultKind = token == BAD ? NO_TOKEN : kind;
            faultPlace = place;
            return false;
        }

        boolean takes(int wanted) {
            step();
            return token == wanted || refuseToken(MISPLACED);
        }

        boolean takesNumber(int least, int most) {
            if (!takes(NUMBER)) {
                return false;
            }
            return value >= least && value <= most || refuseToken(WRONG_NUMBER);
        }

        /** The number of the thing of that kind whose NAME comes next; NONE with a FAULT. */
        int takeNameOf(int kind, Names names) {
            if (!takes(NAME)) {
                return NONE;
            }
            int thing = names.find(value, kind);
            if (thing < 0) {
                refuseToken(WRONG_NAME);
            }
            return thing;
        }
    }

    /** Which NAME is of which thing; a kind is told by its word. */
    private static final class Names {
        final long[] codes = new long[MOST_NAMES];
        final int[] kinds = new int[MOST_NAMES];
        final int[] numbers = new int[MOST_NAMES];
        int many;

        boolean isTaken(long code) {
            for (int i = 0; i < many; i++) {
                if (codes[i] == code) {
                    return true;
                }
            }
            return false;
        }

        int find(long code, int kind) {
            for (int i = 0; i < many; i++) {
                if (codes[i] == code && kinds[i] == kind) {
                    return numbers[i];
                }
            }
            return NONE;
        }

        void add(long code, int kind, int number) {
            if (many < MOST_NAMES) {
                codes[many] = code;
                kinds[many] = kind;
                numbers[many] = number;
                many++;
            }
        }

        void copyFrom(Names other) {
            many = other.many;
            System.arraycopy(other.codes, 0, codes, 0, MOST_NAMES);
            System.arraycopy(other.kinds, 0, kinds, 0, MOST_NAMES);
            System.arraycopy(other.numbers, 0, numbers, 0, MOST_NAMES);
        }
    }

    private static final class Hairs {
        final int[] lengths = new int[MOST_HAIRS];
        final int[] grows = new int[MOST_HAIRS];
        final int[] stands = new int[MOST_HAIRS];
        final int[] waxDays = new int[MOST_HAIRS];
        int many;

        void add(int length, int grow, int stand) {
            if (many < MOST_HAIRS) {
                lengths[many] = length;
                grows[many] = grow;
                stands[many] = stand;
                waxDays[many] = 0;
                many++;
            }
        }

        void copyFrom(Hairs other) {
            many = other.many;
            System.arraycopy(other.lengths, 0, lengths, 0, MOST_HAIRS);
            System.arraycopy(other.grows, 0, grows, 0, MOST_HAIRS);
            System.arraycopy(other.stands, 0, stands, 0, MOST_HAIRS);
            System.arraycopy(other.waxDays, 0, waxDays, 0, MOST_HAIRS);
        }

        int sumOfLengths() {
            int sum = 0;
            for (int h = 0; h < many; h++) {
                sum += lengths[h];
            }
            return sum;
        }

        /** How much is gone. */
        int cut(int hair, int length) {
            int gone = lengths[hair] - length;
            lengths[hair] = length;
            return gone;
        }

        int setStanding(int how) {
            int set = 0;
            for (int h = 0; h < many; h++) {
                if (stands[h] == how) {
                    set |= 1 << h;
                }
            }
            return set;
        }

        int setWaxed() {
            int set = 0;
            for (int h = 0; h < many; h++) {
                if (waxDays[h] > 0) {
                    set |= 1 << h;
                }
            }
            return set;
        }

        int standsAfter(int hair, int days, boolean peace) {
            int moves = Math.max(0, days - waxDays[hair]);
            return peace ? Math.min(STANDS_UP, stands[hair] + moves) : Math.max(STANDS_DOWN, stands[hair] - moves);
        }

        boolean standAlikeAfter(int days, boolean peace) {
            for (int h = 1; h < many; h++) {
                if (standsAfter(h, days, peace) != standsAfter(0, days, peace)) {
                    return false;
                }
            }
            return true;
        }

        void letDaysPass(int days, int lip, boolean peace) {
            for (int h = 0; h < many; h++) {
                lengths[h] = Math.min(LONGEST, lengths[h] + days * (grows[h] + lip));
                stands[h] = standsAfter(h, days, peace);
                waxDays[h] = Math.max(0, waxDays[h] - days);
            }
        }

        /**
         * As WAX holds any HAIR on any DAY, a row is come to in as many DAYS as its HAIRS rise at most and sink at
         * most, together. Rows are counted by how far they rise at most, so that each is counted once.
         */
        int rowsWithin(int days) {
            int count = 0;
            for (int rise = 0; rise <= days && rise <= STANDS_UP; rise++) {
                count += rowsByMoves(rise, days - rise) - rowsByMoves(rise - 1, days - rise);
            }
            return count;
        }

        private int rowsByMoves(int rise, int sink) {
            if (rise < 0) {
                return 0;
            }
            int rows = 1;
            for (int h = 0; h < many; h++) {
                int highest = Math.min(STANDS_UP, stands[h] + rise);
                int lowest = Math.max(STANDS_DOWN, stands[h] - sink);
                rows *= highest - lowest + 1;
            }
            return rows;
        }
    }

    /** The STATE with all that became of it. */
    private static final class Realm {
        final Names names = new Names();
        final Hairs hairs = new Hairs();
        final int[] seats = new int[MOST_PARTIES];
        final int[] wants = new int[MOST_PARTIES];
        final int[] lips = new int[MOST_RULERS];
        final int[] sets = new int[MOST_LOOKS * MOST_HAIRS];
        final int[] pairFirsts = new int[MOST_PAIRS];
        final int[] pairSeconds = new int[MOST_PAIRS];
        int parties;
        int rulers;
        int looks;
        int barbers;
        int pairs;
        int odds;
        int greys;
        int day;
        boolean peace;
        int ruling;

        Realm() {
            clear();
        }

        void clear() {
            names.many = 0;
            hairs.many = 0;
            parties = 0;
            rulers = 0;
            looks = 0;
            barbers = 0;
            pairs = 0;
            odds = 2;
            greys = 20;
            day = 0;
            peace = true;
            ruling = NONE;
            for (int i = 0; i < sets.length; i++) {
                sets[i] = ANY_WAY;
            }
        }

        void copyFrom(Realm other) {
            names.copyFrom(other.names);
            hairs.copyFrom(other.hairs);
            System.arraycopy(other.seats, 0, seats, 0, MOST_PARTIES);
            System.arraycopy(other.wants, 0, wants, 0, MOST_PARTIES);
            System.arraycopy(other.lips, 0, lips, 0, MOST_RULERS);
            System.arraycopy(other.sets, 0, sets, 0, MOST_LOOKS * MOST_HAIRS);
            System.arraycopy(other.pairFirsts, 0, pairFirsts, 0, MOST_PAIRS);
            System.arraycopy(other.pairSeconds, 0, pairSeconds, 0, MOST_PAIRS);
            parties = other.parties;
            rulers = other.rulers;
            looks = other.looks;
            barbers = other.barbers;
            pairs = other.pairs;
            odds = other.odds;
            greys = other.greys;
            day = other.day;
            peace = other.peace;
            ruling = other.ruling;
        }

        int howMany(int what) {
            switch (what) {
                case 0:
                    return hairs.many;
                case 1:
                    return parties;
                case 2:
                    return rulers;
                case 3:
                    return looks;
                case 4:
                    return barbers;
                case 5:
                    return pairs;
                case 6:
                    return odds;
                default:
                    return greys;
            }
        }

        int howItStands(int what) {
            switch (what) {
                case 8:
                    return day;
                case 9:
                    return peace ? 1 : 0;
                case 10:
                    return hairs.setWaxed();
                case 11:
                    return greySet(0);
                case 12:
                    return hairs.setStanding(STANDS_UP);
                case 13:
                    return hairs.setStanding(STANDS_DOWN);
                case 14:
                    return hairs.sumOfLengths();
                default:
                    return allSeats();
            }
        }

        int allSeats() {
            int sum = 0;
            for (int p = 0; p < parties; p++) {
                sum += seats[p];
            }
            return sum;
        }

        int told(int look, int hair) {
            return sets[look * MOST_HAIRS + hair];
        }

        void tell(int look, int hair, int how) {
            sets[look * MOST_HAIRS + hair] = how;
        }

        int toldHairs(int look) {
            int count = 0;
            for (int h = 0; h < hairs.many; h++) {
                if (told(look, h) != ANY_WAY) {
                    count++;
                }
            }
            return count;
        }

        boolean isShownIn(int look, int days) {
            for (int h = 0; h < hairs.many; h++) {
                int told = told(look, h);
                if (told != ANY_WAY && told != hairs.standsAfter(h, days, peace)) {
                    return false;
                }
            }
            return true;
        }

        /** HAIRS that rise need DAYS of PEACE, those that sink DAYS of war; WAX holds the others. */
        int daysToReach(int look) {
            int rise = 0;
            int sink = 0;
            for (int h = 0; h < hairs.many; h++) {
                int told = told(look, h);
                if (told != ANY_WAY) {
                    rise = Math.max(rise, told - hairs.stands[h]);
                    sink = Math.max(sink, hairs.stands[h] - told);
                }
            }
            return rise + sink;
        }

        int lipNow() {
            return ruling >= 0 && ruling < rulers ? lips[ruling] : 0;
        }

        int growthOf(int hair) {
            return hairs.grows[hair] + lipNow();
        }

        int lengthAfter(int hair, int days) {
            return Math.min(LONGEST, hairs.lengths[hair] + days * growthOf(hair));
        }

        boolean letDaysPass(int days) {
            if (days > LAST_DAY - day) {
                return false;
            }
            hairs.letDaysPass(days, lipNow(), peace);
            day += days;
            return true;
        }

        boolean setPeace(boolean is) {
            boolean changes = peace != is;
            peace = is;
            return changes;
        }

        boolean handOn() {
            if (ruling + 1 >= rulers) {
                return false;
            }
            ruling++;
            return true;
        }

        /** SEATS for a trim less those against it. */
        int seatsFor(int hair, int length) {
            int sum = 0;
            for (int p = 0; p < parties; p++) {
                int then = Math.abs(wants[p] - length);
                int now = Math.abs(wants[p] - hairs.lengths[hair]);
                if (then < now) {
                    sum += seats[p];
                } else if (then > now) {
                    sum -= seats[p];
                }
            }
            return sum;
        }

        int greySet(int daysAhead) {
            int depth = greys > 0 ? (day + daysAhead) / greys : 0;
            int set = 0;
            for (int h = 0; h < hairs.many; h++) {
                if (Math.min(h, hairs.many - 1 - h) < depth) {
                    set |= 1 << h;
                }
            }
            return set;
        }
    }

    /** Reads the text of a STATE. */
    private static final class StateReader {
        private Text text;
        private Realm realm;
        private boolean oddsTold;
        private boolean greysTold;

        /** What stands in the realm is of no use behind a FAULT. */
        boolean readState(Text from, Realm into) {
            text = from;
            realm = into;
            realm.clear();
            oddsTold = false;
            greysTold = false;
            for (int part = 0; part <= MOST_BYTES; part++) {
                text.step();
                if (text.token == TEXT_END) {
                    realm.ruling = realm.rulers > 0 ? 0 : NONE;
                    return true;
                }
                if (!readPart()) {
                    return false;
                }
            }
            return false;
        }

        private boolean readPart() {
            switch (text.token) {
                case ODDS:
                    return readOdds();
                case GREYS:
                    return readGreys();
                case HAIR:
                    return readHair();
                case PARTY:
                    return readParty();
                case RULER:
                    return readRuler();
                case LOOK:
                    return readLook();
                case BARBER:
                    return readBarber();
                case PAIR:
                    return readPair();
                default:
                    return text.refuseToken(MISPLACED);
            }
        }

        private boolean readOdds() {
            if (oddsTold) {
                return text.refuseToken(TOLD_TWICE);
            }
            oddsTold = true;
            if (!text.takesNumber(0, 16)) {
                return false;
            }
            realm.odds = text.number();
            return text.takes(SEMICOLON);
        }

        private boolean readGreys() {
            if (greysTold) {
                return text.refuseToken(TOLD_TWICE);
            }
            greysTold = true;
            if (!text.takesNumber(1, 99)) {
                return false;
            }
            realm.greys = text.number();
            return text.takes(SEMICOLON);
        }

        private boolean takesNewName(int kind, int number) {
            if (!text.takes(NAME)) {
                return false;
            }
            if (realm.names.isTaken(text.value)) {
                return text.refuseToken(WRONG_NAME);
            }
            realm.names.add(text.value, kind, number);
            return true;
        }

        private boolean takesWordAndNumber(int word, int least, int most) {
            return text.takes(word) && text.takesNumber(least, most);
        }

        private boolean readHair() {
            Hairs hairs = realm.hairs;
            if (hairs.many >= MOST_HAIRS) {
                return text.refuseToken(ONE_TOO_MANY);
            }
            if (!takesNewName(HAIR, hairs.many) || !takesWordAndNumber(LENGTH, 0, LONGEST)) {
                return false;
            }
            int length = text.number();
            int grows = 1;
            text.step();
            if (text.token == GROWS) {
                if (!text.takesNumber(0, 9)) {
                    return false;
                }
                grows = text.number();
                text.step();
            }
            int stands = STANDS_FLAT;
            if (text.token == UP || text.token == DOWN) {
                stands = standOf(text.token);
                text.step();
            }
            hairs.add(length, grows, stands);
            return text.token == SEMICOLON || text.refuseToken(MISPLACED);
        }

        private boolean readParty() {
            int party = realm.parties;
            if (party >= MOST_PARTIES) {
                return text.refuseToken(ONE_TOO_MANY);
            }
            if (!takesNewName(PARTY, party) || !takesWordAndNumber(SEATS, 1, 99)) {
                return false;
            }
            realm.seats[party] = text.number();
            if (!takesWordAndNumber(WANTS, 0, LONGEST)) {
                return false;
            }
            realm.wants[party] = text.number();
            realm.parties++;
            return text.takes(SEMICOLON);
        }

        private boolean readRuler() {
            int ruler = realm.rulers;
            if (ruler >= MOST_RULERS) {
                return text.refuseToken(ONE_TOO_MANY);
            }
            if (!takesNewName(RULER, ruler) || !takesWordAndNumber(LIP, 0, 9)) {
                return false;
            }
            realm.lips[ruler] = text.number();
            realm.rulers++;
            return text.takes(SEMICOLON);
        }

        private boolean readLook() {
            int look = realm.looks;
            if (look >= MOST_LOOKS) {
                return text.refuseToken(ONE_TOO_MANY);
            }
            if (!takesNewName(LOOK, look)) {
                return false;
            }
            realm.looks++;
            for (int hair = 0; hair <= MOST_HAIRS; hair++) {
                text.step();
                if (text.token == SEMICOLON) {
                    return true;
                }
                int how = standOf(text.token);
                if (how < 0) {
                    return text.refuseToken(MISPLACED);
                }
                if (hair >= realm.hairs.many) {
                    return text.refuseToken(ONE_TOO_MANY);
                }
                realm.tell(look, hair, how);
            }
            return false;
        }

        private boolean readBarber() {
            if (realm.barbers >= MOST_BARBERS) {
                return text.refuseToken(ONE_TOO_MANY);
            }
            if (!takesNewName(BARBER, realm.barbers)) {
                return false;
            }
            realm.barbers++;
            return text.takes(SEMICOLON);
        }

        private boolean readPair() {
            int pair = realm.pairs;
            if (pair >= MOST_PAIRS) {
                return text.refuseToken(ONE_TOO_MANY);
            }
            int first = text.takeNameOf(BARBER, realm.names);
            if (first < 0) {
                return false;
            }
            int second = text.takeNameOf(BARBER, realm.names);
            if (second < 0) {
                return false;
            }
            if (second == first) {
                return text.refuseToken(TOLD_TWICE);
            }
            realm.pairFirsts[pair] = first;
            realm.pairSeconds[pair] = second;
            realm.pairs++;
            return text.takes(SEMICOLON);
        }

        private static int standOf(int word) {
            switch (word) {
                case UP:
                    return STANDS_UP;
                case FLAT:
                    return STANDS_FLAT;
                case DOWN:
                    return STANDS_DOWN;
                case EITHER:
                    return ANY_WAY;
                default:
                    return NONE;
            }
        }
    }

    /** STEPS and ends as one row, in the order of the text; each end knows its beginning and the other way round. */
    private static final class Reigns {
        static final int ROOM = 2 * MOST_STEPS_TOLD;
        final int[] words = new int[ROOM];
        final int[] tests = new int[ROOM];
        final int[] things = new int[ROOM];
        final int[] numbers = new int[ROOM];
        final int[] partners = new int[ROOM];
        int size;
        int steps;
        // A text without STEPS is there, too.
        boolean isThere;

        void clear() {
            size = 0;
            steps = 0;
            isThere = false;
        }

        void copyFrom(Reigns other) {
            size = other.size;
            steps = other.steps;
            isThere = other.isThere;
            System.arraycopy(other.words, 0, words, 0, ROOM);
            System.arraycopy(other.tests, 0, tests, 0, ROOM);
            System.arraycopy(other.things, 0, things, 0, ROOM);
            System.arraycopy(other.numbers, 0, numbers, 0, ROOM);
            System.arraycopy(other.partners, 0, partners, 0, ROOM);
        }
    }

    /** Reads the text of REIGNS. */
    private static final class ReignsReader {
        private Text text;
        // Where the beginnings stand whose ends are still to come.
        private final int[] open = new int[MOST_DEPTH];
        private Reigns reigns;
        private Names names;
        private int depth;

        /** What stands in the REIGNS is of no use behind a FAULT. */
        boolean readReigns(Text from, Reigns into, Names known) {
            text = from;
            reigns = into;
            names = known;
            depth = 0;
            reigns.clear();
            for (int row = 0; row <= MOST_BYTES; row++) {
                text.step();
                if (text.token == TEXT_END) {
                    reigns.isThere = depth == 0;
                    return reigns.isThere || text.refuseToken(MISPLACED);
                }
                if (!readRow()) {
                    return false;
                }
            }
            return false;
        }

        private boolean readRow() {
            if (text.token == END) {
                return readEnd();
            }
            if (!isStepWord(text.token)) {
                return text.refuseToken(MISPLACED);
            }
            if (reigns.steps >= MOST_STEPS_TOLD || reigns.size >= Reigns.ROOM) {
                return text.refuseToken(ONE_TOO_MANY);
            }
            int row = reigns.size;
            reigns.words[row] = text.token;
            reigns.steps++;
            reigns.size++;
            switch (text.token) {
                case DAY:
                    return readNumber(row, 1, 20) && text.takes(SEMICOLON);
                case WAX:
                case TRIM:
                case VOTE:
                    return readThing(row, HAIR) && readNumber(row, 0, 99) && text.takes(SEMICOLON);
                case WHEN:
                    return opens(row) && readTest(row) && text.takes(SEMICOLON);
                case LOOP:
                    return opens(row) && readNumber(row, 1, 99) && text.takes(SEMICOLON);
                default:
                    return text.takes(SEMICOLON);
            }
        }

        private static boolean isStepWord(int word) {
            return word >= DAY && word <= WHEN || word == LOOP || word == STOP;
        }

        private boolean readEnd() {
            if (depth <= 0 || reigns.size >= Reigns.ROOM) {
                return text.refuseToken(MISPLACED);
            }
            depth--;
            int row = reigns.size;
            reigns.words[row] = END;
            reigns.partners[row] = open[depth];
            reigns.partners[open[depth]] = row;
            reigns.size++;
            return text.takes(SEMICOLON);
        }

        private boolean opens(int row) {
            if (depth >= MOST_DEPTH) {
                return text.refuseToken(TOO_DEEP);
            }
            open[depth] = row;
            depth++;
            return true;
        }

        private boolean readNumber(int row, int least, int most) {
            if (!text.takesNumber(least, most)) {
                return false;
            }
            reigns.numbers[row] = text.number();
            return true;
        }

        private boolean readThing(int row, int kind) {
            int thing = text.takeNameOf(kind, names);
            reigns.things[row] = thing;
            return thing >= 0;
        }

        private boolean readTest(int row) {
            text.step();
            reigns.tests[row] = text.token;
            switch (text.token) {
                case PEACE:
                    return true;
                case SHOWS:
                    return readThing(row, LOOK);
                case LENGTH:
                    return readThing(row, HAIR) && readCompares(row) && readNumber(row, 0, LONGEST);
                default:
                    return text.refuseToken(MISPLACED);
            }
        }

        private boolean readCompares(int row) {
            text.step();
            reigns.tests[row] = text.token;
            return text.token == LESS || text.token == MORE || text.token == EQUAL || text.refuseToken(MISPLACED);
        }
    }

    /** REIGNS as they are lived by a seed, and the account of it. */
    private static final class Life {
        int steps;
        private int missed;
        private int days;
        private int trimmed;
        private int passed;
        private boolean leftSome;
        private int drawn;
        private Reigns reigns;
        private Realm realm;
        private final int[] roundsLeft = new int[Reigns.ROOM];

        int account(int what) {
            switch (what) {
                case 0:
                    return missed;
                case 1:
                    return days;
                case 2:
                    return trimmed;
                case 3:
                    return passed;
                default:
                    return leftSome ? 1 : 0;
            }
        }

        void run(Reigns told, Realm where, int seed) {
            reigns = told;
            realm = where;
            drawn = seed;
            steps = 0;
            missed = 0;
            days = 0;
            trimmed = 0;
            passed = 0;
            leftSome = false;
            int row = 0;
            for (int tick = 0; tick < MOST_TICKS && row >= 0 && row < reigns.size && !leftSome; tick++) {
                if (reigns.words[row] == END) {
                    row = behindEnd(row);
                } else if (steps >= MOST_STEPS_DONE) {
                    leftSome = true;
                } else {
                    steps++;
                    if (!canDo(row)) {
                        missed++;
                    }
                    row = behindStep(row);
                }
            }
        }

        private int behindEnd(int row) {
            int beginning = reigns.partners[row];
            if (reigns.words[beginning] == LOOP) {
                roundsLeft[beginning]--;
                if (roundsLeft[beginning] > 0) {
                    return beginning + 1;
                }
            }
            return row + 1;
        }

        private int behindStep(int row) {
            switch (reigns.words[row]) {
                case STOP:
                    return reigns.size;
                case WHEN:
                    return holds(row) ? row + 1 : reigns.partners[row] + 1;
                case LOOP:
                    // Rounds without a STEP change nothing: one will do.
                    roundsLeft[row] = reigns.partners[row] == row + 1 ? 1 : reigns.numbers[row];
                    return row + 1;
                default:
                    return row + 1;
            }
        }

        private boolean holds(int row) {
            int thing = reigns.things[row];
            int number = reigns.numbers[row];
            switch (reigns.tests[row]) {
                case SHOWS:
                    return realm.isShownIn(thing, 0);
                case LESS:
                    return realm.hairs.lengths[thing] < number;
                case MORE:
                    return realm.hairs.lengths[thing] > number;
                case EQUAL:
                    return realm.hairs.lengths[thing] == number;
                default:
                    return realm.peace;
            }
        }

        /** Does what the row tells, if it can be; where to go from when, loop and stop is told elsewhere. */
        private boolean canDo(int row) {
            int hair = reigns.things[row];
            int number = reigns.numbers[row];
            switch (reigns.words[row]) {
                case DAY:
                    return canPass(number);
                case PEACE:
                    return realm.setPeace(true);
                case WAR:
                    return realm.setPeace(false);
                case WAX:
                    realm.hairs.waxDays[hair] = number;
                    return true;
                case TRIM:
                    return canTrim(hair, number);
                case VOTE:
                    return canVote(hair, number);
                case HAND:
                    return realm.handOn();
                case ANY:
                    return canTurnAny();
                default:
                    return true;
            }
        }

        private boolean canPass(int howMany) {
            if (!realm.letDaysPass(howMany)) {
                return false;
            }
            days += howMany;
            return true;
        }

        private boolean canTrim(int hair, int length) {
            if (realm.hairs.lengths[hair] <= length) {
                return false;
            }
            trimmed += realm.hairs.cut(hair, length);
            return true;
        }

        private boolean canVote(int hair, int length) {
            if (realm.seatsFor(hair, length) <= 0 || !canTrim(hair, length)) {
                return false;
            }
            passed++;
            return true;
        }

        private boolean canTurnAny() {
            int many = realm.hairs.many;
            if (many <= 0) {
                return false;
            }
            int hair = draw(many);
            realm.hairs.stands[hair] = draw(3);
            return true;
        }

        /** The number drawn by must be above 0. */
        private int draw(int by) {
            drawn = (drawn * 2971 + 10837) % 65536;
            return by > 0 ? drawn / 8 % by : 0;
        }
    }

    /** A GAME, told by how long each HAIR will be at the end: a trim changes that of one HAIR alone. */
    private static final class Game {
        private final int[] ends = new int[MOST_HAIRS];
        private Realm realm;
        private int turns;

        void setUp(Realm now, int howMany) {
            realm = now;
            turns = howMany;
            for (int h = 0; h < realm.hairs.many; h++) {
                ends[h] = realm.lengthAfter(h, turns);
            }
        }

        int worth() {
            return bestFrom(0, untouched());
        }

        /** NONE if it is best to trim no HAIR. */
        int firstMove() {
            int best = worth();
            int start = untouched();
            for (int h = 0; h < realm.hairs.many; h++) {
                if (withTrim(h, 0, start) == best) {
                    return h;
                }
            }
            return NONE;
        }

        private int untouched() {
            int sum = 0;
            for (int h = 0; h < realm.hairs.many; h++) {
                sum += sideOf(h) * ends[h];
            }
            return sum;
        }

        private int sideOf(int hair) {
            return hair < realm.hairs.many / 2 ? 1 : -1;
        }

        private int bestFrom(int turn, int sum) {
            if (turn >= turns) {
                return sum;
            }
            int best = bestFrom(turn + 1, sum);
            for (int h = 0; h < realm.hairs.many; h++) {
                int then = withTrim(h, turn, sum);
                best = turn % 2 == 0 ? Math.max(best, then) : Math.min(best, then);
            }
            return best;
        }

        private int withTrim(int hair, int turn, int sum) {
            int untrimmed = ends[hair];
            ends[hair] = Math.min(LONGEST, (turns - turn) * realm.growthOf(hair));
            int then = bestFrom(turn + 1, sum + sideOf(hair) * (ends[hair] - untrimmed));
            ends[hair] = untrimmed;
            return then;
        }
    }
}
