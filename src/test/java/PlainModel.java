import java.util.ArrayList;
import java.util.Arrays;
import java.util.List;
import java.util.TreeMap;

/**
 * The document once more, written as plainly as can be with the Java library: every message and snapshot
 * is a fresh object, every log a map from index to entry. RandomRunsTest holds the program against it.
 */
final class PlainModel {
    record Entry(int term, int sort, int subject, int value) { }

    record Snapshot(int index, int term, int members, List<Integer> values) { }

    record Message(int kind, int from, int to, int term, int index, int logTerm, List<Entry> entries,
            int commit, int round, boolean yes, Snapshot snapshot) { }

    static final class Read {
        int leader, key, round, outcome, value, floor;
    }

    static final class Server {
        int me, term, vote = -1, role, commit, round;
        boolean up = true, heard;
        Snapshot snapshot;
        TreeMap<Integer, Entry> log = new TreeMap<>();
        boolean[] yes = new boolean[5];
        int[] next = new int[5], match = new int[5], confirmed = new int[5];

        int last() {
            return log.isEmpty() ? snapshot.index : log.lastKey();
        }

        Integer termAt(int index) {
            return index == snapshot.index ? (Integer) snapshot.term
                    : log.containsKey(index) ? (Integer) log.get(index).term : null;
        }

        int members(int upTo) {
            int members = snapshot.members;
            for (Entry e : log.headMap(upTo, true).values()) {
                if (e.sort == 2) {
                    members = e.subject;
                }
            }
            return members;
        }

        int members() {
            return members(Integer.MAX_VALUE);
        }

        boolean isMember(int s) {
            return (members() & (1 << s)) != 0;
        }

        int latestMembersIndex() {
            int latest = -1;
            for (var e : log.entrySet()) {
                if (e.getValue().sort == 2) {
                    latest = e.getKey();
                }
            }
            return latest;
        }

        List<Integer> values() {
            Integer[] values = snapshot.values.toArray(new Integer[0]);
            for (Entry e : log.headMap(commit, true).values()) {
                if (e.sort == 1) {
                    values[e.subject] = e.value;
                }
            }
            return Arrays.asList(values);
        }

        boolean most(boolean[] some) {
            int all = 0;
            int with = 0;
            for (int s = 0; s < 5; s++) {
                if (isMember(s)) {
                    all++;
                    with += some[s] ? 1 : 0;
                }
            }
            return with * 2 > all;
        }

        boolean[] marked(int[] marks, int least) {
            boolean[] some = new boolean[5];
            for (int s = 0; s < 5; s++) {
                some[s] = s == me || marks[s] >= least;
            }
            return some;
        }
    }

    final Server[] servers = new Server[5];
    final List<Message> row = new ArrayList<>();
    final List<Read> reads = new ArrayList<>();
    /** The greatest COMMIT that any server ever had: what a read must see. */
    int everCommitted;
    /** What runs came by, for RandomRunsTest to see that they came by all of it. */
    final TreeMap<String, Integer> seen = new TreeMap<>();

    PlainModel(int members) {
        int m = members & 31;
        for (int s = 0; s < 5; s++) {
            servers[s] = new Server();
            servers[s].me = s;
            servers[s].snapshot = new Snapshot(0, 0, m == 0 ? 1 : m, List.of(0, 0, 0, 0));
        }
    }

    private void saw(String what) {
        seen.merge(what, 1, Integer::sum);
    }

    private boolean is(int server) {
        return 0 <= server && server <= 4;
    }

    private void send(Message m) {
        if (row.size() < 48) {
            row.add(m);
        } else {
            saw("lost in a full row");
        }
    }

    boolean timer(int server) {
        if (!is(server)) {
            return false;
        }
        Server s = servers[server];
        if (s.up && s.role != 3 && s.isMember(server) && s.log.size() >= 40) {
            saw("log too long to ask");
        }
        if (!s.up || s.role == 3 || !s.isMember(server) || s.log.size() >= 40) {
            return false;
        }
        s.heard = false;
        s.role = 1;
        s.yes = new boolean[5];
        s.yes[server] = true;
        toAll(s, 0, s.term + 1);
        elections(s);
        return true;
    }

    private void toAll(Server s, int kind, int term) {
        for (int to = 0; to < 5; to++) {
            if (to != s.me && s.isMember(to)) {
                send(new Message(kind, s.me, to, term, s.last(), s.termAt(s.last()), List.of(), 0, 0, false, null));
            }
        }
    }

    private void elections(Server s) {
        if (s.role == 1 && s.most(s.yes)) {
            s.role = 2;
            s.term += 1;
            s.vote = s.me;
            s.yes = new boolean[5];
            s.yes[s.me] = true;
            toAll(s, 2, s.term);
        }
        if (s.role == 2 && s.most(s.yes)) {
            s.role = 3;
            Arrays.fill(s.next, s.last() + 1);
            Arrays.fill(s.match, 0);
            Arrays.fill(s.confirmed, 0);
            s.round = 0;
            append(s, new Entry(s.term, 0, 0, 0));
            saw("elected");
        }
    }

    private int append(Server s, Entry e) {
        int index = s.last() + 1;
        s.log.put(index, e);
        lookAtCommit(s);
        if (s.role != 3) {
            throw new AssertionError("a leader that appended is none any more");
        }
        sendAll(s);
        return index;
    }

    private void lookAtCommit(Server s) {
        for (int index = s.commit + 1; index <= s.last(); index++) {
            if (s.log.get(index).term == s.term && s.most(s.marked(s.match, index))) {
                s.commit = index;
            }
        }
        everCommitted = Math.max(everCommitted, s.commit);
        int latest = s.latestMembersIndex();
        if (latest >= 0 && latest <= s.commit && !s.isMember(s.me)) {
            saw("left as a leader");
            follow(s);
        }
    }

    private void sendAll(Server s) {
        for (int to = 0; to < 5; to++) {
            if (to != s.me && s.isMember(to)) {
                sendOne(s, to);
            }
        }
    }

    private void sendOne(Server s, int to) {
        int before = s.next[to] - 1;
        if (before < s.snapshot.index) {
            send(new Message(6, s.me, to, s.term, s.snapshot.index, 0, List.of(), 0, s.round, false, s.snapshot));
            return;
        }
        List<Entry> some = new ArrayList<>(s.log.tailMap(before + 1, true).values());
        send(new Message(4, s.me, to, s.term, before, s.termAt(before),
                List.copyOf(some.subList(0, Math.min(2, some.size()))), s.commit, s.round, false, null));
    }

    private void follow(Server s) {
        s.role = 0;
        for (Read r : reads) {
            if (r.leader == s.me && r.outcome == 0) {
                r.outcome = 2;
                saw("read failed");
            }
        }
    }

    private void lookAtReads(Server s) {
        for (Read r : reads) {
            if (s.role == 3 && r.leader == s.me && r.outcome == 0 && s.most(s.marked(s.confirmed, r.round))) {
                r.outcome = 1;
                r.value = s.values().get(r.key);
                saw("read answered");
                if (s.commit < r.floor) {
                    throw new AssertionError("a read is answered from the past");
                }
            }
        }
    }

    boolean beat(int server) {
        if (!is(server) || servers[server].role != 3) {
            return false;
        }
        sendAll(servers[server]);
        return true;
    }

    int put(int server, int key, int value) {
        if (!is(server) || key < 0 || key > 3) {
            throw new IllegalArgumentException();
        }
        Server s = servers[server];
        if (!s.up || s.role != 3) {
            throw new IllegalStateException();
        }
        if (s.log.size() >= 24) {
            saw("log too long to add");
            throw new UnsupportedOperationException();
        }
        return append(s, new Entry(s.term, 1, key, value));
    }

    int change(int server, int one, boolean joins) {
        if (!is(server) || !is(one)) {
            throw new IllegalArgumentException();
        }
        Server s = servers[server];
        if (joins == s.isMember(one) || !joins && s.members() == 1 << one) {
            throw new IllegalArgumentException();
        }
        if (!s.up || s.role != 3) {
            throw new IllegalStateException();
        }
        if (s.log.size() >= 24 || s.latestMembersIndex() > s.commit || s.termAt(s.commit) != s.term) {
            throw new UnsupportedOperationException();
        }
        saw("change");
        return append(s, new Entry(s.term, 2, s.members() ^ 1 << one, 0));
    }

    int read(int server, int key) {
        if (!is(server) || key < 0 || key > 3) {
            throw new IllegalArgumentException();
        }
        Server s = servers[server];
        if (!s.up || s.role != 3) {
            throw new IllegalStateException();
        }
        int kept = 0;
        for (Read r : reads) {
            kept += r.leader == server && r.outcome == 0 ? 1 : 0;
        }
        if (kept >= 4 || reads.size() >= 60 || s.termAt(s.commit) != s.term) {
            saw(kept >= 4 ? "four reads" : reads.size() >= 60 ? "sixty reads" : "read in an open term");
            throw new UnsupportedOperationException();
        }
        s.round++;
        Read r = new Read();
        r.leader = server;
        r.key = key;
        r.round = s.round;
        r.floor = everCommitted;
        reads.add(r);
        sendAll(s);
        lookAtReads(s);
        return reads.size() - 1;
    }

    int outcome(int read) {
        return read < 0 || read >= reads.size() ? -1 : reads.get(read).outcome;
    }

    int value(int read) {
        return read < 0 || read >= reads.size() ? 0 : reads.get(read).value;
    }

    boolean compact(int server) {
        if (!is(server) || !servers[server].up || servers[server].commit == servers[server].snapshot.index) {
            return false;
        }
        Server s = servers[server];
        s.snapshot = new Snapshot(s.commit, s.log.get(s.commit).term, s.members(s.commit), s.values());
        s.log = new TreeMap<>(s.log.tailMap(s.commit, false));
        return true;
    }

    boolean crash(int server) {
        if (!is(server) || !servers[server].up) {
            return false;
        }
        Server s = servers[server];
        follow(s);
        s.up = false;
        s.heard = false;
        s.commit = s.snapshot.index;
        return true;
    }

    boolean restart(int server) {
        if (!is(server) || servers[server].up) {
            return false;
        }
        servers[server].up = true;
        return true;
    }

    int deliver(int k) {
        if (k < 0 || k >= row.size()) {
            return -1;
        }
        Message m = row.remove(k);
        Server s = servers[m.to];
        if (s.up) {
            saw("came " + m.kind);
            come(s, m);
            everCommitted = Math.max(everCommitted, s.commit);
        } else {
            saw("came to one that is down");
        }
        return m.kind;
    }

    private void newTerm(Server s, int term) {
        s.term = term;
        s.vote = -1;
        follow(s);
    }

    private void come(Server s, Message m) {
        if (m.kind > 1 && m.term > s.term) {
            newTerm(s, m.term);
        }
        boolean before = m.logTerm < s.termAt(s.last()) || m.logTerm == s.termAt(s.last()) && m.index < s.last();
        if (m.kind == 0) {
            boolean yes = !s.heard && m.term > s.term && !before;
            saw("question " + yes);
            send(new Message(1, s.me, m.from, yes ? m.term : s.term, 0, 0, List.of(), 0, 0, yes, null));
        } else if (m.kind == 1 && m.yes && s.role == 1 && m.term == s.term + 1) {
            s.yes[m.from] = true;
            elections(s);
        } else if (m.kind == 1 && !m.yes && m.term > s.term) {
            saw("a no with a greater term");
            newTerm(s, m.term);
        } else if (m.kind == 2) {
            boolean yes = m.term == s.term && (s.vote == -1 || s.vote == m.from) && !before;
            if (yes) {
                s.vote = m.from;
            }
            saw("call " + yes);
            send(new Message(3, s.me, m.from, s.term, 0, 0, List.of(), 0, 0, yes, null));
        } else if (m.kind == 3 && m.yes && s.role == 2 && m.term == s.term) {
            s.yes[m.from] = true;
            elections(s);
        } else if (m.kind == 4 || m.kind == 6) {
            if (m.term < s.term) {
                result(s, m, false, 0, 0);
                return;
            }
            if (s.role == 3) {
                throw new AssertionError("two leaders in one term");
            }
            follow(s);
            s.heard = true;
            if (m.kind == 4) {
                append(s, m);
            } else {
                install(s, m);
            }
        } else if (m.kind == 5 && s.role == 3 && m.term == s.term) {
            result(s, m);
        }
    }

    private void result(Server s, Message m, boolean yes, int index, int round) {
        send(new Message(5, s.me, m.from, s.term, index, 0, List.of(), 0, round, yes, null));
    }

    private void append(Server s, Message m) {
        boolean odd = m.index >= s.snapshot.index && m.index <= s.last() && s.termAt(m.index) != m.logTerm;
        if (m.index > s.last() || odd) {
            saw(odd ? "append with another term before" : "append too far ahead");
            result(s, m, false, Math.max(0, Math.min(s.last(), m.index - 1)), m.round);
            return;
        }
        int index = m.index;
        for (Entry e : m.entries) {
            int at = index + 1;
            if (at <= s.snapshot.index) {
                saw("entry passed over");
            } else {
                if (s.log.containsKey(at) && s.log.get(at).term != e.term) {
                    if (at <= s.commit) {
                        throw new AssertionError("a committed entry is cut away");
                    }
                    saw("log cut away");
                    s.log.tailMap(at, true).clear();
                }
                if (!s.log.containsKey(at)) {
                    if (s.log.size() >= 48) {
                        saw("log full");
                        break;
                    }
                    s.log.put(at, e);
                }
            }
            index = at;
        }
        s.commit = Math.max(s.commit, Math.min(m.commit, index));
        result(s, m, true, index, m.round);
    }

    private void install(Server s, Message m) {
        if (m.index > s.commit) {
            Integer term = s.termAt(m.index);
            boolean keeps = term != null && term == m.snapshot.term;
            TreeMap<Integer, Entry> rest = new TreeMap<>(s.log.tailMap(m.index, false));
            saw("install " + (keeps ? rest.isEmpty() ? "at the end" : "keeps entries" : "empties"));
            s.log = keeps ? rest : new TreeMap<>();
            s.snapshot = m.snapshot;
            s.commit = m.index;
        } else {
            saw("install too late");
        }
        result(s, m, true, m.index, m.round);
    }

    private void result(Server s, Message m) {
        int f = m.from;
        s.confirmed[f] = Math.max(s.confirmed[f], m.round);
        if (m.yes) {
            s.match[f] = Math.max(s.match[f], m.index);
            s.next[f] = s.match[f] + 1;
            lookAtCommit(s);
            if (s.role == 3 && s.next[f] <= s.last() && s.isMember(f)) {
                sendOne(s, f);
            }
        } else {
            s.next[f] = Math.max(1, Math.min(s.next[f] - 1, m.index + 1));
            if (s.isMember(f)) {
                sendOne(s, f);
            }
        }
        lookAtReads(s);
    }

    boolean lose(int k) {
        if (k < 0 || k >= row.size()) {
            return false;
        }
        row.remove(k);
        return true;
    }

    int waiting() {
        return row.size();
    }

    int message(int k, int what) {
        if (k < 0 || k >= row.size() || what < 0 || what > 6) {
            return -1;
        }
        Message m = row.get(k);
        int many = m.kind == 4 ? m.entries.size() : m.yes ? 1 : 0;
        return new int[] {m.kind, m.from, m.to, m.term, m.index, many, m.round}[what];
    }

    int state(int server, int what) {
        if (!is(server) || what < 0 || what > 8) {
            return -1;
        }
        Server s = servers[server];
        return new int[] {s.role, s.term, s.vote, s.commit, s.snapshot.index, s.last(), s.members(),
            s.heard ? 1 : 0, s.up ? 1 : 0}[what];
    }

    int entry(int server, int index, int what) {
        if (!is(server) || !servers[server].log.containsKey(index) || what < 0 || what > 3) {
            return -1;
        }
        Entry e = servers[server].log.get(index);
        return new int[] {e.term, e.sort, e.subject, e.value}[what];
    }

    int stored(int server, int key) {
        return is(server) && key >= 0 && key <= 3 ? servers[server].values().get(key) : 0;
    }
}
