/**
 * Servers that keep one log. The document DOC.md says what each call does, as numbered promises;
 * words in capitals there (TERM, COMMIT, HEARD, ..) are names here.
 */
public final class QuorumLog {
    private static final int SERVERS = 5;
    private static final int ALL_SERVERS = 31;
    private static final int KEYS = 4;
    private static final int NONE = -1;

    private static final int FOLLOWER = 0;
    private static final int ASKING = 1;
    private static final int CANDIDATE = 2;
    private static final int LEADER = 3;

    private static final int NOTHING = 0;
    private static final int PUT = 1;
    private static final int MEMBERS = 2;

    private static final int QUESTION = 0;
    private static final int ANSWER = 1;
    private static final int CALL = 2;
    private static final int VOTE = 3;
    private static final int APPEND = 4;
    private static final int RESULT = 5;
    private static final int INSTALL = 6;

    private static final int KEPT = 0;
    private static final int ANSWERED = 1;
    private static final int FAILED = 2;

    private static final int LOG_ROOM = 48;
    private static final int LOG_TOO_LONG_TO_ASK = 40;
    private static final int LOG_TOO_LONG_TO_ADD = 24;
    private static final int ROW_ROOM = 48;
    private static final int ENTRIES_SENT = 2;
    private static final int READS_IN_ALL = 60;
    private static final int READS_KEPT = 4;

    private final Server[] servers = new Server[SERVERS];
    private final Row row;
    private final Reads reads = new Reads();

    public QuorumLog(int members) {
        int lowest = members & ALL_SERVERS;
        Snapshot first = new Snapshot(0, 0, lowest == 0 ? 1 : lowest, new int[KEYS]);
        for (int number = 0; number < SERVERS; number++) {
            servers[number] = new Server(number, first);
        }
        row = new Row(first);
    }

    public boolean timer(int server) {
        if (!isServer(server) || !servers[server].mayAsk()) {
            return false;
        }
        Server one = servers[server];
        one.heard = false;
        one.role = ASKING;
        one.yes = 1 << one.number;
        askAll(one, QUESTION, one.term + 1);
        standIfMostSaidYes(one);
        leadIfMostSaidYes(one);
        return true;
    }

    public boolean beat(int server) {
        if (!isServer(server) || !servers[server].leads()) {
            return false;
        }
        sendToAll(servers[server]);
        return true;
    }

    public int put(int server, int key, int value)
            throws IllegalArgumentException, IllegalStateException, UnsupportedOperationException {
        Server one = leaderFor(server, key);
        if (one.log.count >= LOG_TOO_LONG_TO_ADD) {
            throw new UnsupportedOperationException("the log is too long");
        }
        return append(one, new Entry(one.term, PUT, key, value));
    }

    public int change(int server, int one, boolean joins)
            throws IllegalArgumentException, IllegalStateException, UnsupportedOperationException {
        if (!isServer(server) || !isServer(one)) {
            throw new IllegalArgumentException("no such server");
        }
        Server leader = servers[server];
        Log log = leader.log;
        int members = log.configuration();
        int changed = joins ? members | 1 << one : members & ~(1 << one);
        if (changed == members || changed == 0) {
            throw new IllegalArgumentException("a member already, none, or the only one");
        }
        if (!leader.leads()) {
            throw new IllegalStateException("down or no leader");
        }
        if (log.count >= LOG_TOO_LONG_TO_ADD || log.latestMembersUpTo(log.last()) > leader.commit
                || !leader.hasCommitOfItsTerm()) {
            throw new UnsupportedOperationException("the log is too long, or a change or the term is open");
        }
        return append(leader, new Entry(leader.term, MEMBERS, changed, 0));
    }

    public int read(int server, int key)
            throws IllegalArgumentException, IllegalStateException, UnsupportedOperationException {
        Server one = leaderFor(server, key);
        if (reads.keptBy(server) >= READS_KEPT || reads.count >= READS_IN_ALL || !one.hasCommitOfItsTerm()) {
            throw new UnsupportedOperationException("too many reads, or the term is open");
        }
        one.round++;
        int number = reads.keep(server, key, one.round);
        sendToAll(one);
        lookAtReads(one);
        return number;
    }

    public int outcome(int read) {
        return reads.holds(read) ? reads.outcomes[read] : NONE;
    }

    public int value(int read) {
        return reads.holds(read) ? reads.answers[read] : 0;
    }

    public boolean compact(int server) {
        if (!isServer(server)) {
            return false;
        }
        Server one = servers[server];
        if (!one.up || one.commit == one.log.snapshot.index) {
            return false;
        }
        one.log.beginBehind(one.log.snapshotAt(one.commit));
        return true;
    }

    public boolean crash(int server) {
        if (!isServer(server) || !servers[server].up) {
            return false;
        }
        Server one = servers[server];
        follow(one);
        one.up = false;
        one.heard = false;
        one.commit = one.log.snapshot.index;
        return true;
    }

    public boolean restart(int server) {
        if (!isServer(server) || servers[server].up) {
            return false;
        }
        servers[server].up = true;
        return true;
    }

    public int deliver(int k) {
        if (!row.holds(k)) {
            return NONE;
        }
        Message taken = row.take(k);
        Server receiver = servers[taken.receiver];
        if (receiver.up) {
            come(receiver, taken);
            standIfMostSaidYes(receiver);
            leadIfMostSaidYes(receiver);
        }
        return taken.kind;
    }

    public boolean lose(int k) {
        if (!row.holds(k)) {
            return false;
        }
        row.take(k);
        return true;
    }

    public int waiting() {
        return row.count;
    }

    public int message(int k, int what) {
        if (!row.holds(k)) {
            return NONE;
        }
        Message one = row.places[k];
        switch (what) {
            case 0: return one.kind;
            case 1: return one.sender;
            case 2: return one.receiver;
            case 3: return one.term;
            case 4: return one.index;
            case 5: return one.kind == APPEND ? one.size : one.yes ? 1 : 0;
            case 6: return one.round;
            default: return NONE;
        }
    }

    public int state(int server, int what) {
        if (!isServer(server)) {
            return NONE;
        }
        Server one = servers[server];
        switch (what) {
            case 0: return one.role;
            case 1: return one.term;
            case 2: return one.vote;
            case 3: return one.commit;
            case 4: return one.log.snapshot.index;
            case 5: return one.log.last();
            case 6: return one.log.configuration();
            case 7: return one.heard ? 1 : 0;
            case 8: return one.up ? 1 : 0;
            default: return NONE;
        }
    }

    public int entry(int server, int index, int what) {
        Entry found = isServer(server) ? servers[server].log.find(index) : null;
        if (found == null) {
            return NONE;
        }
        switch (what) {
            case 0: return found.term;
            case 1: return found.sort;
            case 2: return found.subject;
            case 3: return found.value;
            default: return NONE;
        }
    }

    public int stored(int server, int key) {
        if (!isServer(server) || !isKey(key)) {
            return 0;
        }
        return servers[server].storedNow(key);
    }

    private static boolean isServer(int server) {
        return server >= 0 && server < SERVERS;
    }

    private static boolean isKey(int key) {
        return key >= 0 && key < KEYS;
    }

    private static boolean isIn(int members, int server) {
        return (members >> server & 1) == 1;
    }

    private static boolean areMost(int some, int members) {
        return 2 * Integer.bitCount(some & members) > Integer.bitCount(members);
    }

    private Server leaderFor(int server, int key) {
        if (!isServer(server) || !isKey(key)) {
            throw new IllegalArgumentException("no such server or key");
        }
        if (!servers[server].leads()) {
            throw new IllegalStateException("down or no leader");
        }
        return servers[server];
    }

    private void askAll(Server one, int kind, int term) {
        int members = one.log.configuration();
        for (int to = 0; to < SERVERS; to++) {
            if (to != one.number && isIn(members, to)) {
                Message sent = row.send(kind, one.number, to, term);
                sent.index = one.log.last();
                sent.logTerm = one.log.lastTerm();
            }
        }
    }

    private void standIfMostSaidYes(Server one) {
        if (one.role != ASKING || !areMost(one.yes, one.log.configuration())) {
            return;
        }
        one.role = CANDIDATE;
        one.term++;
        one.vote = one.number;
        one.yes = 1 << one.number;
        askAll(one, CALL, one.term);
    }

    private void leadIfMostSaidYes(Server one) {
        if (one.role != CANDIDATE || !areMost(one.yes, one.log.configuration())) {
            return;
        }
        one.role = LEADER;
        one.round = 0;
        for (int other = 0; other < SERVERS; other++) {
            one.next[other] = one.log.last() + 1;
            one.match[other] = 0;
            one.confirmed[other] = 0;
        }
        append(one, new Entry(one.term, NOTHING, 0, 0));
    }

    private int append(Server leader, Entry added) {
        leader.log.add(added);
        lookAtCommit(leader);
        sendToAll(leader);
        return leader.log.last();
    }

    private void lookAtCommit(Server leader) {
        int members = leader.log.configuration();
        for (int index = leader.log.last(); index > leader.commit; index--) {
            // A later leader could still cut away entries of older terms that only lie on most servers.
            if (leader.log.termAt(index) == leader.term && areMost(leader.holdersOf(index), members)) {
                leader.commit = index;
                break;
            }
        }
        int latest = leader.log.latestMembersUpTo(leader.log.last());
        if (latest != NONE && latest <= leader.commit && !isIn(members, leader.number)) {
            follow(leader);
        }
    }

    private void sendToAll(Server leader) {
        int members = leader.log.configuration();
        for (int to = 0; to < SERVERS; to++) {
            if (to != leader.number && isIn(members, to)) {
                sendTo(leader, to);
            }
        }
    }

    private void sendTo(Server leader, int to) {
        int before = leader.next[to] - 1;
        boolean isCutAway = before < leader.log.snapshot.index;
        Message sent = row.send(isCutAway ? INSTALL : APPEND, leader.number, to, leader.term);
        sent.round = leader.round;
        if (isCutAway) {
            sent.snapshot = leader.log.snapshot;
            sent.index = leader.log.snapshot.index;
        } else {
            sent.index = before;
            sent.logTerm = leader.log.termAt(before);
            sent.commit = leader.commit;
            sent.size = leader.log.copyBehind(before, sent.entries);
        }
    }

    private void lookAtReads(Server leader) {
        int members = leader.log.configuration();
        for (int number = 0; number < reads.count; number++) {
            if (reads.isKeptBy(number, leader.number)
                    && areMost(leader.confirmersOf(reads.rounds[number]), members)) {
                reads.outcomes[number] = ANSWERED;
                reads.answers[number] = leader.storedNow(reads.keys[number]);
            }
        }
    }

    private void follow(Server one) {
        if (one.role == LEADER) {
            reads.failAllOf(one.number);
        }
        one.role = FOLLOWER;
    }

    private void enterTerm(Server one, int term) {
        one.term = term;
        one.vote = NONE;
        follow(one);
    }

    private void come(Server one, Message came) {
        // Questions carry a term that nobody has entered yet, so they and their answers move no term here.
        if (came.kind != QUESTION && came.kind != ANSWER && came.term > one.term) {
            enterTerm(one, came.term);
        }
        switch (came.kind) {
            case QUESTION: questionComes(one, came); break;
            case ANSWER: answerComes(one, came); break;
            case CALL: callComes(one, came); break;
            case VOTE: voteComes(one, came); break;
            case APPEND: appendComes(one, came); break;
            case RESULT: resultComes(one, came); break;
            case INSTALL: installComes(one, came); break;
            default: break;
        }
    }

    private void questionComes(Server one, Message came) {
        boolean yes = !one.heard && came.term > one.term && !one.log.isBehindOf(came);
        Message sent = row.send(ANSWER, one.number, came.sender, yes ? came.term : one.term);
        sent.yes = yes;
    }

    private void answerComes(Server one, Message came) {
        if (came.yes) {
            if (one.role == ASKING && came.term == one.term + 1) {
                one.yes |= 1 << came.sender;
            }
        } else if (came.term > one.term) {
            enterTerm(one, came.term);
        }
    }

    private void callComes(Server one, Message came) {
        boolean isFree = one.vote == NONE || one.vote == came.sender;
        boolean yes = came.term == one.term && isFree && !one.log.isBehindOf(came);
        if (yes) {
            one.vote = came.sender;
        }
        Message sent = row.send(VOTE, one.number, came.sender, one.term);
        sent.yes = yes;
    }

    private void voteComes(Server one, Message came) {
        if (came.yes && one.role == CANDIDATE && came.term == one.term) {
            one.yes |= 1 << came.sender;
        }
    }

    private void appendComes(Server one, Message came) {
        if (came.term < one.term) {
            sendResult(one, came.sender, false, 0, 0);
            return;
        }
        follow(one);
        one.heard = true;
        if (!one.log.fitsBehind(came.index, came.logTerm)) {
            int hint = Math.max(0, Math.min(one.log.last(), came.index - 1));
            sendResult(one, came.sender, false, hint, came.round);
            return;
        }
        int end = one.log.takeOver(came);
        one.commit = Math.max(one.commit, Math.min(came.commit, end));
        sendResult(one, came.sender, true, end, came.round);
    }

    private void installComes(Server one, Message came) {
        if (came.term < one.term) {
            sendResult(one, came.sender, false, 0, 0);
            return;
        }
        follow(one);
        one.heard = true;
        if (came.index > one.commit) {
            one.log.beginBehind(came.snapshot);
            one.commit = came.index;
        }
        sendResult(one, came.sender, true, came.index, came.round);
    }

    private void sendResult(Server one, int to, boolean yes, int index, int round) {
        Message sent = row.send(RESULT, one.number, to, one.term);
        sent.yes = yes;
        sent.index = index;
        sent.round = round;
    }

    private void resultComes(Server one, Message came) {
        if (one.role != LEADER || came.term != one.term) {
            return;
        }
        int from = came.sender;
        one.confirmed[from] = Math.max(one.confirmed[from], came.round);
        if (came.yes) {
            one.match[from] = Math.max(one.match[from], came.index);
            one.next[from] = one.match[from] + 1;
            lookAtCommit(one);
        } else {
            one.next[from] = Math.max(1, Math.min(one.next[from] - 1, came.index + 1));
        }
        boolean hasMore = !came.yes || one.next[from] <= one.log.last();
        if (one.role == LEADER && hasMore && isIn(one.log.configuration(), from)) {
            sendTo(one, from);
        }
        lookAtReads(one);
    }

    /** An entry never changes, so logs and messages share it. */
    private static final class Entry {
        final int term;
        final int sort;
        final int subject;
        final int value;

        Entry(int term, int sort, int subject, int value) {
            this.term = term;
            this.sort = sort;
            this.subject = subject;
            this.value = value;
        }
    }

    /** A snapshot never changes, so servers and messages share it. */
    private static final class Snapshot {
        final int index;
        final int term;
        final int members;
        final int[] values;

        Snapshot(int index, int term, int members, int[] values) {
            this.index = index;
            this.term = term;
            this.members = members;
            this.values = values;
        }
    }

    /** A snapshot and the entries behind it: what a crash leaves alone. */
    private static final class Log {
        Snapshot snapshot;
        final Entry[] entries = new Entry[LOG_ROOM];
        int count;

        Log(Snapshot first) {
            snapshot = first;
        }

        int last() {
            return snapshot.index + count;
        }

        int lastTerm() {
            return termAt(last());
        }

        Entry find(int index) {
            int place = index - snapshot.index - 1;
            return place >= 0 && place < count ? entries[place] : null;
        }

        int termAt(int index) {
            if (index == snapshot.index) {
                return snapshot.term;
            }
            Entry found = find(index);
            return found == null ? NONE : found.term;
        }

        /** The index of the latest MEMBERS among the entries up to an index, or NONE. */
        int latestMembersUpTo(int end) {
            for (int index = end; index > snapshot.index; index--) {
                Entry found = find(index);
                if (found != null && found.sort == MEMBERS) {
                    return index;
                }
            }
            return NONE;
        }

        int configuration() {
            return membersAt(latestMembersUpTo(last()));
        }

        /** Those of the MEMBERS with this index, or the snapshot's for NONE. */
        int membersAt(int index) {
            Entry found = find(index);
            return found == null ? snapshot.members : found.subject;
        }

        int storedUpTo(int end, int key) {
            for (int index = end; index > snapshot.index; index--) {
                Entry found = find(index);
                if (found != null && found.sort == PUT && found.subject == key) {
                    return found.value;
                }
            }
            return snapshot.values[key];
        }

        boolean add(Entry added) {
            if (count >= LOG_ROOM) {
                return false;
            }
            entries[count] = added;
            count++;
            return true;
        }

        void cutFrom(int index) {
            int left = index - snapshot.index - 1;
            if (left >= 0 && left < count) {
                count = left;
            }
        }

        /** Copies the entries behind an index into a message's places: how many. */
        int copyBehind(int before, Entry[] places) {
            for (int place = 0; place < places.length; place++) {
                Entry found = find(before + 1 + place);
                if (found == null) {
                    return place;
                }
                places[place] = found;
            }
            return places.length;
        }

        boolean isBehindOf(Message asked) {
            int ownTerm = lastTerm();
            return asked.logTerm < ownTerm || asked.logTerm == ownTerm && asked.index < last();
        }

        boolean fitsBehind(int before, int term) {
            return before <= last() && (before < snapshot.index || termAt(before) == term);
        }

        /** Takes over an APPEND's entries, as far as there is room: the index where the message ends then. */
        int takeOver(Message came) {
            for (int place = 0; place < came.size; place++) {
                int index = came.index + 1 + place;
                if (index > snapshot.index && !hasOrTakes(index, came.entries[place])) {
                    return index - 1;
                }
            }
            return came.index + came.size;
        }

        private boolean hasOrTakes(int index, Entry sent) {
            if (termAt(index) == sent.term) {
                return true;
            }
            cutFrom(index);
            return add(sent);
        }

        Snapshot snapshotAt(int end) {
            int[] values = new int[KEYS];
            for (int key = 0; key < KEYS; key++) {
                values[key] = storedUpTo(end, key);
            }
            return new Snapshot(end, termAt(end), membersAt(latestMembersUpTo(end)), values);
        }

        /** The snapshot becomes this log's; entries behind it stay only if the log led up to it. */
        void beginBehind(Snapshot taken) {
            int ownTerm = termAt(taken.index);
            int left = ownTerm != NONE && ownTerm == taken.term ? last() - taken.index : 0;
            int gone = count - left;
            for (int place = 0; place < left; place++) {
                entries[place] = entries[place + gone];
            }
            count = left;
            snapshot = taken;
        }
    }

    /** A server; what a leader alone uses (next, match, confirmed, round) is set anew when it is elected. */
    private static final class Server {
        final int number;
        final Log log;
        final int[] next = new int[SERVERS];
        final int[] match = new int[SERVERS];
        final int[] confirmed = new int[SERVERS];
        boolean up = true;
        boolean heard;
        int term;
        int vote = NONE;
        int role = FOLLOWER;
        int commit;
        int round;
        int yes;

        Server(int number, Snapshot first) {
            this.number = number;
            this.log = new Log(first);
        }

        boolean leads() {
            return up && role == LEADER;
        }

        boolean mayAsk() {
            return up && role != LEADER && isIn(log.configuration(), number) && log.count < LOG_TOO_LONG_TO_ASK;
        }

        boolean hasCommitOfItsTerm() {
            return log.termAt(commit) == term;
        }

        int storedNow(int key) {
            return log.storedUpTo(commit, key);
        }

        int holdersOf(int index) {
            return reachedBy(match, index);
        }

        int confirmersOf(int askedRound) {
            return reachedBy(confirmed, askedRound);
        }

        private int reachedBy(int[] marks, int mark) {
            int servers = 1 << number;
            for (int other = 0; other < SERVERS; other++) {
                if (marks[other] >= mark) {
                    servers |= 1 << other;
                }
            }
            return servers;
        }
    }

    /** A message; "index" is the one of its kind: the last, the one before, a result's, a snapshot's. */
    private static final class Message {
        final Entry[] entries = new Entry[ENTRIES_SENT];
        int kind;
        int sender;
        int receiver;
        int term;
        int index;
        int logTerm;
        int size;
        int commit;
        int round;
        boolean yes;
        Snapshot snapshot;

        Message(Snapshot first) {
            snapshot = first;
        }

        void begin(int kindSent, int from, int to, int termSent) {
            kind = kindSent;
            sender = from;
            receiver = to;
            term = termSent;
            index = 0;
            logTerm = 0;
            size = 0;
            commit = 0;
            round = 0;
            yes = false;
        }
    }

    /** The waiting messages; their objects are made once and used again. */
    private static final class Row {
        // One place more than may wait: a message that is sent to a full row is written there and lost.
        final Message[] places = new Message[ROW_ROOM + 1];
        // The message taken last is still looked at while answers to it are sent, so it rests outside.
        Message taken;
        int count;

        Row(Snapshot first) {
            for (int place = 0; place < places.length; place++) {
                places[place] = new Message(first);
            }
            taken = new Message(first);
        }

        boolean holds(int k) {
            return k >= 0 && k < count;
        }

        Message send(int kind, int from, int to, int term) {
            Message sent = places[count];
            sent.begin(kind, from, to, term);
            if (count < ROW_ROOM) {
                count++;
            }
            return sent;
        }

        Message take(int k) {
            Message rested = taken;
            taken = places[k];
            count--;
            for (int place = k; place < count; place++) {
                places[place] = places[place + 1];
            }
            places[count] = rested;
            return taken;
        }
    }

    /** All reads by number; one that is KEPT is kept by its leader. */
    private static final class Reads {
        final int[] leaders = new int[READS_IN_ALL];
        final int[] keys = new int[READS_IN_ALL];
        final int[] rounds = new int[READS_IN_ALL];
        final int[] outcomes = new int[READS_IN_ALL];
        final int[] answers = new int[READS_IN_ALL];
        int count;

        boolean holds(int number) {
            return number >= 0 && number < count;
        }

        boolean isKeptBy(int number, int leader) {
            return outcomes[number] == KEPT && leaders[number] == leader;
        }

        int keptBy(int leader) {
            int kept = 0;
            for (int number = 0; number < count; number++) {
                if (isKeptBy(number, leader)) {
                    kept++;
                }
            }
            return kept;
        }

        int keep(int leader, int key, int round) {
            int number = count;
            if (number < READS_IN_ALL) {
                leaders[number] = leader;
                keys[number] = key;
                rounds[number] = round;
                count++;
            }
            return number;
        }

        void failAllOf(int leader) {
            for (int number = 0; number < count; number++) {
                if (isKeptBy(number, leader)) {
                    outcomes[number] = FAILED;
                }
            }
        }
    }
}
