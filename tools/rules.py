"""Shows how src/main/java/Pagedocument.java stands to the rules of ../shared/LANGUAGE.md that can be counted: how deep
calls go, what of the library is called, names, lengths, parameters, fields."""
import re,subprocess,sys,glob,os
import tempfile
d=tempfile.mkdtemp()
MAIN=os.path.join(os.path.dirname(os.path.abspath(__file__)),'../src/main/java/Pagedocument.java')
subprocess.check_call(['javac','-Xlint:all','-d',d,MAIN])
edges={}; pub=set()
lib=set(); names={}
for f in sorted(glob.glob(d+'/Pagedocument*.class')):
    t=subprocess.check_output(['javap','-c','-p',f]).decode()
    cls=os.path.basename(f)[:-6]
    cur=None
    for l in t.split('\n'):
        m=re.match(r'^  ((?:public |private |static |final |protected )*)(?:[\w\[\]$.<>]+ )?([\w$]+)\(.*\)(?: throws .*)?;$',l)
        if m:
            n=m.group(2)
            cur=cls+'.'+n
            names.setdefault(cls,[]).append((n,m.group(1)))
            edges.setdefault(cur,set())
            if 'public' in m.group(1): pub.add(cur)
        m=re.search(r'invoke\w+\s+#\d+(?:,\s+\d+)?\s+// (?:Interface)?Method (\S+)',l)
        if m and cur:
            tgt=m.group(1).split(':')[0]
            if '/' in tgt or tgt.startswith('java'):
                lib.add(m.group(1)); continue
            if '.' not in tgt: tgt=cls+'.'+tgt
            tgt=tgt.replace('"<init>"',tgt.split('.')[0])
            edges[cur].add(tgt)
print('classes',len(names))
# SCC
sys.setrecursionlimit(10000)
idx={};low={};st=[];on=set();comp={};c=[0];k=[0]
def dfs(v):
    idx[v]=low[v]=k[0];k[0]+=1;st.append(v);on.add(v)
    for w in edges.get(v,()):
        if w not in idx: dfs(w);low[v]=min(low[v],low[w])
        elif w in on: low[v]=min(low[v],idx[w])
    if low[v]==idx[v]:
        s=[]
        while True:
            w=st.pop();on.discard(w);comp[w]=c[0];s.append(w)
            if w==v:break
        if len(s)>1 or v in edges.get(v,()): print('recursive:',s)
        c[0]+=1
for v in list(edges): 
    if v not in idx: dfs(v)
members={}
for v in comp: members.setdefault(comp[v],[]).append(v)
memo={}
def longest(cid):
    if cid in memo: return memo[cid]
    best=(0,[])
    for v in members[cid]:
        for w in edges.get(v,()):
            if comp[w]!=cid:
                r=longest(comp[w])
                if r[0]>best[0]: best=r
    memo[cid]=(best[0]+len(members[cid]),[members[cid]]+best[1])
    return memo[cid]
rows=sorted(((longest(comp[p])[0],p) for p in pub),reverse=True)
for r in rows[:12]: print(r, ' > '.join('|'.join(x.split('.')[-1] for x in m) for m in longest(comp[r[1]])[1]))
pubn={n.split('.')[-1] for n in pub}
for cl in names:
    for n,mod in names[cl]:
        if n in pubn and not (cl=='Pagedocument' and 'public' in mod): print('name of a public one:',cl,n)
print(sorted(lib))
# method lengths, params, fields
src=open(MAIN).read().split('\n')
i=0
for i,l in enumerate(src):
    m=re.match(r'^( {4}| {8})((?:public|private|static|final|boolean|int|long|void|String|byte|Text|Doc|[A-Z]\w*)[\w\[\]<> ]*)\s(\w+)\((.*)',l)
    if m and not l.strip().endswith(';') and '=' not in l:
        ind=m.group(1)
        j=i
        while src[j]!=ind+'}': j+=1
        sig=' '.join(src[i:i+3]).split('{')[0]
        ps=sig[sig.index('(')+1:sig.index(')')].strip()
        np=0 if not ps else ps.count(',')+1
        if j-i+1>50 or np>6: print('long',m.group(3),j-i+1,'params',np)
cls=None;cnt={}
for l in src:
    m=re.match(r'^(?:    private static final|public final) class (\w+)',l)
    if m: cls=m.group(1)
    ind='    ' if cls=='Pagedocument' else '        '
    if cls and re.match('^'+ind+r'(private |final )*[\w\[\]]+ \w+( =.*)?;$',l) and 'static' not in l and 'return' not in l:
        cnt[cls]=cnt.get(cls,0)+1
print(cnt)
print('lines',len(src),'while loops',sum('while (' in l for l in src))
