/** The class itself, behind its calls' names. */
final class Real implements Calls {
    private final ShareHall x = new ShareHall();

    @Override
    public long call(String name, long[] a) {
        switch (name) {
            case "type": return x.type(a[0], (int) a[1]) ? 1 : 0;
            case "put": return x.put(a[0], (int) a[1]) ? 1 : 0;
            case "hall": return x.hall((int) a[0], a[1], (int) a[2]) ? 1 : 0;
            case "compile": return x.compile();
            case "load": return x.load();
            case "fault": return x.fault((int) a[0]);
            case "code": return x.code((int) a[0]);
            case "deal": return x.deal((int) a[0], (int) a[1]);
            case "give": return x.give((int) a[0], a[1]) ? 1 : 0;
            case "begin": return x.begin() ? 1 : 0;
            case "tamper": return x.tamper((int) a[0], (int) a[1], (int) a[2], a[3]) ? 1 : 0;
            case "step": return x.step((int) a[0]);
            case "deliver": return x.deliver((int) a[0], (int) a[1]) ? 1 : 0;
            case "run": return x.run((int) a[0]);
            case "party": return x.party((int) a[0], (int) a[1]);
            case "output": return x.output((int) a[0], (int) a[1]);
            case "clear": return x.clear((int) a[0], (int) a[1]);
            case "bound": return x.bound((int) a[0], (int) a[1], (int) a[2]);
            case "total": return x.total((int) a[0]);
            default: throw new IllegalArgumentException("no such call: " + name);
        }
    }
}
