/** What the tests share: counting wrong answers, and runs of calls that many of them begin with. */
final class Checks {
    static final Class<IllegalArgumentException> ARGUMENT = IllegalArgumentException.class;
    static final Class<IllegalStateException> STATE = IllegalStateException.class;
    static final Class<UnsupportedOperationException> UNSUPPORTED = UnsupportedOperationException.class;

    interface Call {
        long make();
    }

    /** Makes a new object and brings it somewhere, the same way every time. */
    interface Maker {
        QuorumLog make();
    }

    /** A call on an object: its answer. */
    interface Use {
        Object on(QuorumLog x);
    }

    private final String name;
    private int wrong;

    Checks(String name) {
        this.name = name;
    }

    void same(String what, long got, long due) {
        sameText(what, Long.toString(got), Long.toString(due));
    }

    private void sameText(String what, String got, String due) {
        if (!got.equals(due)) {
            wrong++;
            System.out.println(name + ": " + what + " answered " + got + ", due is " + due);
        }
    }

    void yes(String what, boolean got) {
        same(what, got ? 1 : 0, 1);
    }

    void no(String what, boolean got) {
        same(what, got ? 1 : 0, 0);
    }

    void throwing(String what, Class<? extends RuntimeException> due, Call call) {
        sameText(what, answer(null, x -> call.make()), due.getSimpleName());
    }

    /** The call answers what is due, or throws it if it is a class, and leaves all as it was. */
    void refused(String what, Object due, Maker maker, Use call) {
        String told = due instanceof Class<?> thrown ? thrown.getSimpleName() : due.toString();
        sameText(what, answer(maker.make(), call), told);
        // A fresh object for each look, as one is good for 512 calls only.
        for (int part = 0; part < Looks.PARTS; part++) {
            QuorumLog called = maker.make();
            answer(called, call);
            sameText(what + ", looked at behind it (" + part + "),",
                    Looks.look(called, part), Looks.look(maker.make(), part));
        }
    }

    static String answer(QuorumLog x, Use call) {
        try {
            return String.valueOf(call.on(x));
        } catch (RuntimeException e) {
            return e.getClass().getSimpleName();
        }
    }

    /** Roles, terms, .. as state tells them for what = 0 .. 8, in that order. */
    void states(String when, QuorumLog x, int server, int... due) {
        for (int what = 0; what < due.length; what++) {
            same(when + ": state(" + server + ", " + what + ")", x.state(server, what), due[what]);
        }
    }

    /** Kind, sender, .. as message tells them for what = 0 .. 6, in that order. */
    void messages(String when, QuorumLog x, int k, int... due) {
        for (int what = 0; what < due.length; what++) {
            same(when + ": message(" + k + ", " + what + ")", x.message(k, what), due[what]);
        }
    }

    void lastMessage(String when, QuorumLog x, int... due) {
        messages(when, x, x.waiting() - 1, due);
    }

    /** Term, sort, .. as entry tells them for what = 0 .. 3, in that order. */
    void entries(String when, QuorumLog x, int server, int index, int... due) {
        for (int what = 0; what < due.length; what++) {
            same(when + ": entry(" + server + ", " + index + ", " + what + ")", x.entry(server, index, what), due[what]);
        }
    }

    void end() {
        System.out.println(name + ": " + (wrong == 0 ? "all answers are as due" : wrong + " answers are not as due"));
        if (wrong != 0) {
            System.exit(1);
        }
    }

    static int find(QuorumLog x, int kind, int from, int to) {
        int waiting = x.waiting();
        for (int k = 0; k < waiting; k++) {
            if (x.message(k, 0) == kind && x.message(k, 1) == from && x.message(k, 2) == to) {
                return k;
            }
        }
        return -1;
    }

    /** Delivers the first waiting message of a kind from one server to another. */
    void pass(QuorumLog x, int kind, int from, int to) {
        same("pass " + kind + " from " + from + " to " + to, x.deliver(find(x, kind, from, to)), kind);
    }

    /** An APPEND of a leader comes to another one, and its RESULT back. */
    void copy(QuorumLog x, int leader, int other) {
        pass(x, 4, leader, other);
        pass(x, 5, other, leader);
    }

    /** One asks, and stands by the yes of some; their calls wait. */
    void stand(QuorumLog x, int one, int... others) {
        x.timer(one);
        for (int other : others) {
            pass(x, 0, one, other);
            pass(x, 1, other, one);
        }
        same("stands", x.state(one, 0), 2);
    }

    /** Elects one by the yes of another alone; what else it sent is lost. */
    void elect(QuorumLog x, int one, int other) {
        x.timer(one);
        pass(x, 0, one, other);
        pass(x, 1, other, one);
        pass(x, 2, one, other);
        pass(x, 3, other, one);
        same("elected", x.state(one, 0), 3);
        loseAll(x);
    }

    /** Delivers in order until none waits. */
    static void deliverAll(QuorumLog x) {
        for (int i = 0; i < 100000 && x.deliver(0) >= 0; i++) {
            continue;
        }
    }

    static void deliver(QuorumLog x, int times) {
        for (int i = 0; i < times; i++) {
            x.deliver(0);
        }
    }

    static void loseAll(QuorumLog x) {
        for (int i = 0; i < 100 && x.lose(0); i++) {
            continue;
        }
    }

    /** Loses the waiting messages to one server. */
    static void loseTo(QuorumLog x, int server) {
        for (int k = x.waiting() - 1; k >= 0; k--) {
            if (x.message(k, 2) == server) {
                x.lose(k);
            }
        }
    }

    /** A crash and a restart make a server one that has not heard. */
    static void forget(QuorumLog x, int... servers) {
        for (int server : servers) {
            x.crash(server);
            x.restart(server);
        }
    }

    /** A new object whose first leader is elected, has its NOTHING on all servers, and no message waits. */
    static QuorumLog led(int members, int leader) {
        QuorumLog x = new QuorumLog(members);
        x.timer(leader);
        deliverAll(x);
        return x;
    }

    /** Server 0 leads and is the only member; it has so many entries, all of which count. */
    static QuorumLog alone(int entries) {
        QuorumLog x = new QuorumLog(1);
        x.timer(0);
        for (int index = 2; index <= entries; index++) {
            x.put(0, index % 4, index);
        }
        return x;
    }

    /** Leader 0 of two cuts its log, server 1 does not: server 1 has entries 1 .. last, and all but the last count. */
    static QuorumLog longLog(int last) {
        QuorumLog x = led(3, 0);
        for (int index = 2; index <= last; index++) {
            if ((index - 1) % 24 == 0) {
                x.compact(0);
            }
            x.put(0, index % 4, index);
            deliver(x, 2);
        }
        return x;
    }
}
