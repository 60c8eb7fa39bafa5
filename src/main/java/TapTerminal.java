/** A terminal that takes a payment from one of several cards in its field, and those cards. */
public final class TapTerminal {
    public static final int DECLINE = 0, ONLINE = 1, APPROVE = 2, NO_CARD = 3, LOST = 4, ENDED = 5, REFUSED = -1, FULL = -2;

    private static final int CARDS = 4;
    private static final int RECORDS = 3;
    private static final int RECORD_OCTETS = 24;
    private static final int COMMAND_OCTETS = 11;
    private static final int LEAST_SIZE = 3, MOST_SIZE = 16;
    private static final int APPLICATIONS = 8;
    private static final int ADDRESS_BITS = 8;
    private static final int NOTED_EXCHANGES = 128;
    private static final int GREATEST_INT = 2147483647;

    private static final int NO_FAULT = 0, NOT_HEARD = 1, ANSWER_NOT_HEARD = 2;
    private static final int WAKE = 1, ASK = 2, SELECT = 3, PUT_OFF = 4, I = 5, ACK = 6, NAK = 7;
    private static final int TELL_APPLICATION = 1, COUNT_RECORDS = 2, READ_RECORD = 3, DECIDE = 4;

    private static final int TRIES = 3;
    // Exchanges from 128 on have no faults, so no command comes near this many.
    private static final int MOST_BLOCKS = 1000000;

    private static final int END = 1, PLACE = 2, WAYS = 3, CODES = 4, SIGN = 5, TAGS = 5;
    private static final int MOST_PLAIN_TAG = 127;
    private static final int LEVELS = 4;

    private static final int NOT_SIGNED = 1, TOO_LATE = 2, ELSEWHERE = 4, NO_WAY = 8, FLOOR_REACHED = 16, DRAWN = 32, INCOMPLETE = 64;

    // Stands where an ending would: the run has not come to one yet.
    private static final int GOES_ON = -1;
    private static final int NONE = -1;

    private final Air air;
    private final Settings settings;
    private final Items items;
    private final Report report;
    private final Row command;
    private final Row answer;

    public TapTerminal() {
        air = new Air();
        settings = new Settings();
        items = new Items();
        report = new Report();
        command = new Row(COMMAND_OCTETS);
        answer = new Row(RECORD_OCTETS);
    }

    public boolean card(int c, int address, int application, int key, int size) {
        boolean fits = isWithin(c, CARDS) && isOctet(address) && isWithin(application, APPLICATIONS)
                && size >= LEAST_SIZE && size <= MOST_SIZE;
        if (fits) {
            air.cards[c].renew(address, application, key, size);
        }
        return fits;
    }

    public boolean allow(int c, int cap, int limit) {
        boolean fits = isCard(c) && isOctet(limit);
        if (fits) {
            air.cards[c].cap = cap;
            air.cards[c].limit = limit;
        }
        return fits;
    }

    public int write(int c, int r, int v) {
        if (!isCard(c) || !isWithin(r, RECORDS) || !isOctet(v)) {
            return REFUSED;
        }
        Row record = air.cards[c].records[r];
        if (record.count == RECORD_OCTETS) {
            return FULL;
        }
        record.add(v);
        return record.count;
    }

    public boolean field(int c, boolean in) {
        if (!isCard(c) || in && air.isAddressTaken(c)) {
            return false;
        }
        air.cards[c].inField = in;
        return true;
    }

    public boolean terminal(int place, int floor, int ways, boolean online, int issuer) {
        boolean fits = isOctet(place) && isOctet(ways) && (ways & 1) == 0;
        if (fits) {
            settings.place = place;
            settings.floor = floor;
            settings.ways = ways;
            settings.online = online;
            settings.issuer = issuer;
        }
        return fits;
    }

    public boolean takes(int applications) {
        boolean fits = isOctet(applications);
        if (fits) {
            settings.applications = applications;
        }
        return fits;
    }

    public int fault(int n, int kind) {
        if (!isWithin(n, NOTED_EXCHANGES) || kind < NO_FAULT || kind > ANSWER_NOT_HEARD) {
            return REFUSED;
        }
        int before = air.journal.faults[n];
        air.journal.faults[n] = kind;
        return before;
    }

    public int run(int amount, int random, int day) {
        report.clear();
        air.begin();
        int ending = chooseCard();
        if (ending == GOES_ON) {
            ending = readRecords(amount);
        }
        if (ending == GOES_ON) {
            ending = settle(amount, random, day);
        }
        report.ending = ending;
        return ending;
    }

    public int told(int what) {
        switch (what) {
            case 0: return report.ending;
            case 1: return report.chosen;
            case 2: return report.findings;
            case 3: return report.typeAsked;
            case 4: return report.counter;
            case 5: return report.mixture;
            case 6: return air.journal.count;
            case 7: return air.journal.unanswered;
            case 8: return report.selected;
            case 9: return report.recordsRead;
            default: return REFUSED;
        }
    }

    public int exchange(int n, int what) {
        Journal journal = air.journal;
        if (!isWithin(n, NOTED_EXCHANGES) || n >= journal.count) {
            return REFUSED;
        }
        switch (what) {
            case 0: return journal.kinds[n];
            case 1: return journal.numbers[n];
            case 2: return journal.answered[n] ? 1 : 0;
            default: return REFUSED;
        }
    }

    public int look(int c, int what) {
        if (!isCard(c)) {
            return REFUSED;
        }
        Card card = air.cards[c];
        switch (what) {
            case 0: return card.inField ? 1 : 0;
            case 1: return card.address;
            case 2: return card.counter;
            case 3: return card.runs;
            case 4: return card.commandsDone;
            case 5: return card.countRecords();
            default: return REFUSED;
        }
    }

    public int mix(int key, int a, int b, int c, int d) {
        return stir(stir(stir(stir(key, a), b), c), d);
    }

    private int chooseCard() {
        if (!air.wake()) {
            return NO_CARD;
        }
        // Every round that does not end the search puts a card off, so the one after the last card ends it.
        for (int round = 0; round <= CARDS; round++) {
            int ending = air.findAddress();
            if (ending != GOES_ON) {
                return ending;
            }
            if (!air.select()) {
                return LOST;
            }
            report.selected++;
            startCommand(TELL_APPLICATION);
            if (!air.transmit(command, answer)) {
                return LOST;
            }
            if (settings.takesApplication(answer.at(0))) {
                report.chosen = air.partner;
                return GOES_ON;
            }
            if (!air.putOff()) {
                return LOST;
            }
        }
        return NO_CARD;
    }

    private int readRecords(int amount) {
        startCommand(COUNT_RECORDS);
        command.addInt(amount);
        if (!air.transmit(command, answer)) {
            return LOST;
        }
        int records = Math.min(answer.at(0), RECORDS);
        items.clear();
        for (int r = 0; r < records; r++) {
            startCommand(READ_RECORD);
            command.add(r);
            if (!air.transmit(command, answer)) {
                return LOST;
            }
            report.recordsRead++;
            items.take(answer);
        }
        return GOES_ON;
    }

    private int settle(int amount, int random, int day) {
        if (!items.whole || !items.there[END] || !items.there[CODES]) {
            return ENDED;
        }
        report.findings = settings.findingsOf(items, amount, random, day);
        report.typeAsked = settings.typeFor(report.findings, items.rows[CODES]);
        startCommand(DECIDE);
        command.add(report.typeAsked);
        command.addInt(amount);
        command.addInt(random);
        command.add(report.findings);
        if (!air.transmit(command, answer)) {
            return LOST;
        }
        report.counter = answer.pairAt(1);
        report.mixture = answer.intAt(3);
        return answer.at(0);
    }

    private void startCommand(int code) {
        command.clear();
        command.add(code);
    }

    private boolean isCard(int c) {
        return isWithin(c, CARDS) && air.cards[c].exists;
    }

    private static boolean isWithin(int n, int bound) {
        return n >= 0 && n < bound;
    }

    private static boolean isOctet(int v) {
        return isWithin(v, 256);
    }

    /** One step of MIX: h after x has come to it. */
    private static int stir(int h, int x) {
        int stirred = (h ^ x) * 16777619;
        return stirred ^ (stirred >>> 15);
    }

    /** Octets in a row that holds so many at most. */
    private static final class Row {
        private final int[] octets;
        int count;

        Row(int room) {
            octets = new int[room];
        }

        void clear() {
            count = 0;
        }

        void add(int octet) {
            if (count < octets.length) {
                octets[count] = octet;
                count++;
            }
        }

        void addInt(int x) {
            add(x >>> 24);
            add(x >>> 16 & 255);
            add(x >>> 8 & 255);
            add(x & 255);
        }

        void addPart(Row other, int from, int to) {
            for (int i = from; i < to; i++) {
                add(other.at(i));
            }
        }

        int at(int i) {
            return i >= 0 && i < count ? octets[i] : 0;
        }

        int pairAt(int i) {
            return at(i) << 8 | at(i + 1);
        }

        int intAt(int i) {
            return at(i) << 24 | at(i + 1) << 16 | at(i + 2) << 8 | at(i + 3);
        }

        int stirInto(int h) {
            int stirred = h;
            for (int i = 0; i < count; i++) {
                stirred = stir(stirred, octets[i]);
            }
            return stirred;
        }
    }

    /** What goes through the air once a card is selected: I, ACK or NAK. */
    private static final class Block {
        int kind;
        int number;
        boolean more;
        final Row octets;

        Block() {
            octets = new Row(MOST_SIZE);
        }

        void becomePlain(int newKind, int newNumber) {
            kind = newKind;
            number = newNumber;
            more = false;
            octets.clear();
        }

        void becomePart(int newNumber, Row row, int from, int size) {
            becomePlain(I, newNumber);
            octets.addPart(row, from, Math.min(from + size, row.count));
            more = from + size < row.count;
        }
    }

    /** A card: what it is and holds, its side of the blocks, and its commands. */
    private static final class Card {
        boolean exists;
        boolean inField;
        boolean ready;
        int address;
        int application;
        int key;
        int size;
        int counter;
        int cap;
        int limit;
        int runs;
        int commandsDone;
        final Row[] records;
        // What it answered last; saying it again is how it repairs what was not heard.
        final Block reply;
        private int number;
        private final Row heard;
        private final Row answer;
        private int answerFrom;

        Card() {
            records = new Row[RECORDS];
            for (int r = 0; r < RECORDS; r++) {
                records[r] = new Row(RECORD_OCTETS);
            }
            reply = new Block();
            heard = new Row(COMMAND_OCTETS);
            answer = new Row(RECORD_OCTETS);
        }

        void renew(int newAddress, int newApplication, int newKey, int newSize) {
            exists = true;
            inField = false;
            address = newAddress;
            application = newApplication;
            key = newKey;
            size = newSize;
            counter = 0;
            cap = GREATEST_INT;
            limit = 255;
            runs = 0;
            commandsDone = 0;
            for (int r = 0; r < RECORDS; r++) {
                records[r].clear();
            }
        }

        int countRecords() {
            for (int r = RECORDS; r > 0; r--) {
                if (records[r - 1].count > 0) {
                    return r;
                }
            }
            return 0;
        }

        boolean beginsWith(int prefix, int bits) {
            return (address ^ prefix) >>> (ADDRESS_BITS - bits) == 0;
        }

        void hearCall(int kind) {
            if (kind == SELECT) {
                number = 1;
                // Half a command may be left of a run that was lost.
                heard.clear();
            } else if (kind == PUT_OFF) {
                ready = false;
            }
        }

        void hearBlock(Block sent) {
            if (sent.number == number) {
                return;
            }
            if (sent.kind == NAK) {
                reply.becomePlain(ACK, number);
                return;
            }
            number = sent.number;
            if (sent.kind == ACK) {
                answerFrom += size;
                reply.becomePart(number, answer, answerFrom, size);
                return;
            }
            heard.addPart(sent.octets, 0, sent.octets.count);
            if (sent.more) {
                reply.becomePlain(ACK, number);
                return;
            }
            obey();
            heard.clear();
            answerFrom = 0;
            reply.becomePart(number, answer, answerFrom, size);
        }

        private void obey() {
            commandsDone++;
            answer.clear();
            switch (heard.at(0)) {
                case TELL_APPLICATION:
                    answer.add(application);
                    break;
                case COUNT_RECORDS:
                    answer.add(countRecords());
                    break;
                case READ_RECORD:
                    addRecord(heard.at(1));
                    break;
                case DECIDE: {
                    int amount = heard.intAt(2);
                    int type = decide(heard.at(1), amount);
                    answer.add(type);
                    answer.add(counter >>> 8);
                    answer.add(counter & 255);
                    answer.addInt(mixtureOf(type, amount, heard.intAt(6), heard.at(10)));
                    break;
                }
                default:
                    break;
            }
        }

        private void addRecord(int r) {
            if (isWithin(r, RECORDS)) {
                answer.addPart(records[r], 0, records[r].count);
            }
        }

        private int decide(int asked, int amount) {
            counter = (counter + 1) & 65535;
            int type = asked;
            if (amount > cap) {
                type = DECLINE;
            } else if (type == APPROVE && runs >= limit) {
                type = ONLINE;
            }
            if (type == APPROVE) {
                runs++;
            } else if (type == ONLINE) {
                runs = 0;
            }
            return type;
        }

        private int mixtureOf(int type, int amount, int random, int findings) {
            int h = stir(stir(key, type), counter);
            return stir(stir(stir(h, amount), random), findings);
        }
    }

    /** The faults that are set, and the exchanges of the latest run. */
    private static final class Journal {
        final int[] faults;
        final int[] kinds;
        final int[] numbers;
        final boolean[] answered;
        int count;
        int unanswered;

        Journal() {
            faults = new int[NOTED_EXCHANGES];
            kinds = new int[NOTED_EXCHANGES];
            numbers = new int[NOTED_EXCHANGES];
            answered = new boolean[NOTED_EXCHANGES];
        }

        void clear() {
            count = 0;
            unanswered = 0;
        }

        int nextFault() {
            return count < NOTED_EXCHANGES ? faults[count] : NO_FAULT;
        }

        /** Notes an exchange, and hands back whether it was answered. */
        boolean note(int kind, int number, boolean wasAnswered) {
            if (count < NOTED_EXCHANGES) {
                kinds[count] = kind;
                numbers[count] = number;
                answered[count] = wasAnswered;
            }
            count++;
            if (!wasAnswered) {
                unanswered++;
            }
            return wasAnswered;
        }
    }

    /** The cards, and the terminal's side of what it sends to them. */
    private static final class Air {
        final Card[] cards;
        final Journal journal;
        // The first card that answers, which is the only one once its address is found; or NONE.
        int partner;
        // The bits in which the addresses that answered ASK are not all the same.
        private int differing;
        // The terminal's number, t in the document.
        private int turn;
        private final Block sent;

        Air() {
            cards = new Card[CARDS];
            for (int c = 0; c < CARDS; c++) {
                cards[c] = new Card();
            }
            journal = new Journal();
            sent = new Block();
        }

        boolean isAddressTaken(int c) {
            for (int other = 0; other < CARDS; other++) {
                if (other != c && cards[other].inField && cards[other].address == cards[c].address) {
                    return true;
                }
            }
            return false;
        }

        void begin() {
            journal.clear();
            for (int c = 0; c < CARDS; c++) {
                cards[c].ready = cards[c].inField;
            }
        }

        boolean wake() {
            gather(0, 0);
            return call(WAKE, 0);
        }

        /** GOES_ON if a card's address is found (it is the partner then), else how the run ends. */
        int findAddress() {
            int prefix = 0;
            int bits = 0;
            // The prefix grows with every answer that does not settle it, and it has 8 bits at most.
            for (int round = 0; round <= ADDRESS_BITS; round++) {
                gather(prefix, bits);
                if (!call(ASK, bits)) {
                    return bits == 0 ? NO_CARD : LOST;
                }
                if (differing == 0) {
                    return GOES_ON;
                }
                int same = leadingZeros(differing);
                prefix = cards[partner].address & ~(255 >>> same);
                bits = same + 1;
            }
            return LOST;
        }

        boolean select() {
            turn = 0;
            return call(SELECT, cards[partner].address);
        }

        boolean putOff() {
            return call(PUT_OFF, cards[partner].address);
        }

        /** Sends a command to the partner and takes what it answers; false if it is lost. */
        boolean transmit(Row command, Row answer) {
            Card card = cards[partner];
            int kind = I;
            int from = 0;
            int silent = 0;
            answer.clear();
            for (int blocks = 0; blocks < MOST_BLOCKS && silent < TRIES; blocks++) {
                prepare(kind, command, from, card.size);
                int fault = journal.nextFault();
                if (fault != NOT_HEARD) {
                    card.hearBlock(sent);
                }
                if (!journal.note(kind, turn, fault == NO_FAULT)) {
                    silent++;
                    kind = kind == ACK ? ACK : NAK;
                    continue;
                }
                silent = 0;
                Block reply = card.reply;
                boolean agreed = reply.number == turn;
                if (agreed) {
                    turn = 1 - turn;
                }
                if (reply.kind == ACK) {
                    from = agreed ? from + card.size : from;
                    kind = I;
                } else {
                    answer.addPart(reply.octets, 0, reply.octets.count);
                    if (!reply.more) {
                        return true;
                    }
                    kind = ACK;
                }
            }
            return false;
        }

        private void prepare(int kind, Row command, int from, int size) {
            if (kind == I) {
                sent.becomePart(turn, command, from, size);
            } else {
                sent.becomePlain(kind, turn);
            }
        }

        /** Finds who answers to a prefix: partner is the first of them, differing where their addresses part. */
        private void gather(int prefix, int bits) {
            partner = NONE;
            differing = 0;
            for (int c = 0; c < CARDS; c++) {
                if (cards[c].ready && cards[c].beginsWith(prefix, bits)) {
                    partner = partner == NONE ? c : partner;
                    differing |= cards[c].address ^ cards[partner].address;
                }
            }
        }

        /** Sends what is no block until it is answered; false if it is not. */
        private boolean call(int kind, int number) {
            boolean answered = false;
            for (int attempt = 0; attempt < TRIES && !answered; attempt++) {
                int fault = journal.nextFault();
                if (partner != NONE && fault != NOT_HEARD) {
                    cards[partner].hearCall(kind);
                }
                answered = journal.note(kind, number, partner != NONE && fault == NO_FAULT);
            }
            return answered;
        }

        private static int leadingZeros(int octet) {
            int zeros = 0;
            while (zeros < ADDRESS_BITS && (octet & (128 >>> zeros)) == 0) {
                zeros++;
            }
            return zeros;
        }
    }

    /** What the records hold: for each tag that counts the octets of its first item. */
    private static final class Items {
        final Row[] rows;
        final boolean[] there;
        boolean whole;
        // A first item of a wrong length is seen but not there: later ones do not make up for it.
        private final boolean[] seen;

        Items() {
            rows = new Row[TAGS + 1];
            for (int tag = 0; tag <= TAGS; tag++) {
                rows[tag] = new Row(RECORD_OCTETS);
            }
            there = new boolean[TAGS + 1];
            seen = new boolean[TAGS + 1];
        }

        void clear() {
            whole = true;
            for (int tag = 0; tag <= TAGS; tag++) {
                rows[tag].clear();
                there[tag] = false;
                seen[tag] = false;
            }
        }

        void take(Row record) {
            if (!takePart(this, record, 0, record.count, 1)) {
                whole = false;
            }
        }

        /** Takes items apart from a row's octets, down to the last level; false if one is not whole or lies deeper. */
        private static boolean takePart(Items into, Row row, int from, int to, int level) {
            for (int i = from; i < to; i += 2 + row.at(i + 1)) {
                int start = i + 2;
                if (start > to || start + row.at(i + 1) > to) {
                    return false;
                }
                int next = start + row.at(i + 1);
                if (row.at(i) <= MOST_PLAIN_TAG) {
                    into.keepFirst(row.at(i), row, start, next);
                } else if (level == LEVELS || !takePart(into, row, start, next, level + 1)) {
                    return false;
                }
            }
            return true;
        }

        private void keepFirst(int tag, Row row, int from, int to) {
            if (tag < END || tag > TAGS || seen[tag]) {
                return;
            }
            seen[tag] = true;
            if (isLength(tag, to - from)) {
                there[tag] = true;
                rows[tag].addPart(row, from, to);
            }
        }

        private static boolean isLength(int tag, int length) {
            switch (tag) {
                case END: return length == 2;
                case PLACE: return length == 1;
                case WAYS: return length % 2 == 0;
                case CODES: return length == 3;
                case SIGN: return length == 4;
                default: return false;
            }
        }
    }

    /** How the terminal is set, and what it makes of a card's items. */
    private static final class Settings {
        int place;
        int floor;
        int ways;
        boolean online;
        int issuer;
        int applications;

        Settings() {
            online = true;
        }

        boolean takesApplication(int application) {
            return (applications >>> application & 1) == 1;
        }

        int findingsOf(Items items, int amount, int random, int day) {
            int sum = 0;
            if (!isSigned(items)) {
                sum += NOT_SIGNED;
            }
            if (items.rows[END].pairAt(0) < day) {
                sum += TOO_LATE;
            }
            if (items.there[PLACE] && items.rows[PLACE].at(0) != place) {
                sum += ELSEWHERE;
            }
            if (!someWayGoes(items.rows[WAYS], amount >= floor)) {
                sum += NO_WAY;
            }
            if (amount >= floor) {
                sum += FLOOR_REACHED;
            }
            if ((random & 7) == 0) {
                sum += DRAWN;
            }
            if (!items.there[PLACE] || !items.there[WAYS]) {
                sum += INCOMPLETE;
            }
            return sum;
        }

        int typeFor(int findings, Row codes) {
            if ((findings & codes.at(0)) != 0) {
                return DECLINE;
            }
            if ((findings & codes.at(1)) == 0) {
                return APPROVE;
            }
            if (online) {
                return ONLINE;
            }
            return (findings & codes.at(2)) != 0 ? DECLINE : APPROVE;
        }

        private boolean isSigned(Items items) {
            int h = issuer;
            for (int tag = END; tag <= CODES; tag++) {
                h = items.rows[tag].stirInto(h);
            }
            return items.there[SIGN] && items.rows[SIGN].intAt(0) == h;
        }

        private boolean someWayGoes(Row pairs, boolean floorReached) {
            for (int i = 0; i + 1 < pairs.count; i += 2) {
                int way = pairs.at(i);
                if (isNow(pairs.at(i + 1), floorReached)) {
                    if (hasWay(way & 127)) {
                        return true;
                    }
                    if (way <= 127) {
                        return false;
                    }
                }
            }
            return false;
        }

        private static boolean isNow(int when, boolean floorReached) {
            return when == 0 || when == 1 && floorReached || when == 2 && !floorReached;
        }

        private boolean hasWay(int way) {
            return way == 0 || way <= 7 && (ways >>> way & 1) == 1;
        }
    }

    /** What told tells of the latest run, beside its exchanges. */
    private static final class Report {
        int ending;
        int chosen;
        int findings;
        int typeAsked;
        int counter;
        int mixture;
        int selected;
        int recordsRead;

        Report() {
            clear();
        }

        void clear() {
            ending = NONE;
            chosen = NONE;
            findings = 0;
            typeAsked = NONE;
            counter = 0;
            mixture = 0;
            selected = 0;
            recordsRead = 0;
        }
    }
}
