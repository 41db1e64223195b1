/** A call by its name, so that tests can take calls from tables and play them again. */
record Call(String name, int... a) {
    long on(HairLine x) {
        switch (name) {
            case "runner": return x.runner(a[0], a[1]);
            case "shape": return x.shape(a[0], a[1], a[2], a[3], a[4]);
            case "set": return x.set(a[0], a[1]);
            case "shows": return x.shows(a[0], a[1], a[2]);
            case "of": return x.of(a[0], a[1]);
            case "moved": return x.moved(a[0]);
            case "order": return x.order(a[0]);
            case "place": return x.place(a[0], a[1]);
            case "stretch": return x.stretch(a[0], a[1]);
            case "speeds": return x.speeds(a[0], a[1], a[2]);
            case "push": return x.push(a[0], a[1]);
            case "mended": return x.mended(a[0]);
            case "wrong": return x.wrong(a[0], a[1], a[2], a[3]);
            case "known": return x.known(a[0], a[1], a[2]);
            case "late": return x.late(a[0], a[1]);
            case "tell": return x.tell(a[0], a[1]);
            case "time": return x.time(a[0]);
            case "old": return x.old(a[0]);
            case "say": return x.say(a[0]);
            case "wipe": return x.wipe();
            case "fault": return x.fault();
            case "rule": return x.rule();
            case "record": return x.record(a[0], a[1], a[2], a[3]);
            case "slit": return x.slit(a[0], a[1]);
            case "seen": return x.seen(a[0], a[1]);
            case "best": return x.best(a[0], a[1]);
            case "told": return x.told(a[0]);
            default: throw new IllegalArgumentException("no call " + name);
        }
    }

    String written() {
        StringBuilder text = new StringBuilder(name).append('(');
        for (int i = 0; i < a.length; i++) {
            text.append(i == 0 ? "" : ", ").append(a[i]);
        }
        return text.append(')').toString();
    }
}
